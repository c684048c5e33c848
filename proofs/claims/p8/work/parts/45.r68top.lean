theorem foT_s (n : Nat) (h1 : 80 ≤ n) (h2 : n < 96) : foT n = 1 := by
  have : ∀ n, n < 96 → 80 ≤ n → foT n = 1 := by decide +kernel
  exact this n h2 h1
theorem foT_j (n : Nat) (h1 : 112 ≤ n) (h2 : n < 128) : foT n = 12 := by
  have : ∀ n, n < 128 → 112 ≤ n → foT n = 12 := by decide +kernel
  exact this n h2 h1
theorem foT_m (n : Nat) (h1 : 132 ≤ n) (h2 : n < 140) : foT n = 2 := by
  have : ∀ n, n < 140 → 132 ≤ n → foT n = 2 := by decide +kernel
  exact this n h2 h1
theorem foT_t (n : Nat) (h1 : 144 ≤ n) (h2 : n < 154) : foT n = 1 := by
  have : ∀ n, n < 154 → 144 ≤ n → foT n = 1 := by decide +kernel
  exact this n h2 h1
theorem foT_g (n : Nat) (h1 : 164 ≤ n) (h2 : n < 176) (h3 : ¬ n / 2 = 84) : foT n = 1 := by
  have : ∀ n, n < 176 → 164 ≤ n → ¬ n / 2 = 84 → foT n = 1 := by decide +kernel
  exact this n h2 h1 h3
theorem ftT_cmov (n : Nat) (h1 : 64 ≤ n) (h2 : n < 80) : ftT n = 2 := by
  have : ∀ n, n < 80 → 64 ≤ n → ftT n = 2 := by decide +kernel
  exact this n h2 h1
theorem ftT_jcc (n : Nat) (h1 : 128 ≤ n) (h2 : n < 144) : ftT n = 36 := by
  have : ∀ n, n < 144 → 128 ≤ n → ftT n = 36 := by decide +kernel
  exact this n h2 h1
theorem ftT_setc (n : Nat) (h1 : 144 ≤ n) (h2 : n < 160) : ftT n = 2 := by
  have : ∀ n, n < 160 → 144 ≤ n → ftT n = 2 := by decide +kernel
  exact this n h2 h1
theorem ftT_bsw (n : Nat) (h1 : 200 ≤ n) (h2 : n < 208) : ftT n = 1 := by
  have : ∀ n, n < 208 → 200 ≤ n → ftT n = 1 := by decide +kernel
  exact this n h2 h1
theorem o1_short (n : Nat) (h1 : 80 ≤ n) (h2 : n < 96) : n = 80 ∨ n = 81 ∨ n = 82 ∨ n = 83 ∨ n = 84 ∨ n = 85 ∨ n = 86 ∨ n = 87 ∨ n = 88 ∨ n = 89 ∨ n = 90 ∨ n = 91 ∨ n = 92 ∨ n = 93 ∨ n = 94 ∨ n = 95 := by omega
theorem o1_jcc (n : Nat) (h1 : 112 ≤ n) (h2 : n < 128) : n = 112 ∨ n = 113 ∨ n = 114 ∨ n = 115 ∨ n = 116 ∨ n = 117 ∨ n = 118 ∨ n = 119 ∨ n = 120 ∨ n = 121 ∨ n = 122 ∨ n = 123 ∨ n = 124 ∨ n = 125 ∨ n = 126 ∨ n = 127 := by omega
theorem o1_move (n : Nat) (h1 : 132 ≤ n) (h2 : n < 140) : n = 132 ∨ n = 133 ∨ n = 134 ∨ n = 135 ∨ n = 136 ∨ n = 137 ∨ n = 138 ∨ n = 139 := by omega
theorem o1_turn (n : Nat) (h1 : 144 ≤ n) (h2 : n < 154) : n = 144 ∨ n = 145 ∨ n = 146 ∨ n = 147 ∨ n = 148 ∨ n = 149 ∨ n = 150 ∨ n = 151 ∨ n = 152 ∨ n = 153 := by omega
theorem o1_imm (n : Nat) (h1 : 176 ≤ n) (h2 : n < 192) : n = 176 ∨ n = 177 ∨ n = 178 ∨ n = 179 ∨ n = 180 ∨ n = 181 ∨ n = 182 ∨ n = 183 ∨ n = 184 ∨ n = 185 ∨ n = 186 ∨ n = 187 ∨ n = 188 ∨ n = 189 ∨ n = 190 ∨ n = 191 := by omega
theorem o1_loop (n : Nat) (h1 : 224 ≤ n) (h2 : n < 228) : n = 224 ∨ n = 225 ∨ n = 226 ∨ n = 227 := by omega
theorem o2_jcc (n : Nat) (h1 : 128 ≤ n) (h2 : n < 144) : n = 128 ∨ n = 129 ∨ n = 130 ∨ n = 131 ∨ n = 132 ∨ n = 133 ∨ n = 134 ∨ n = 135 ∨ n = 136 ∨ n = 137 ∨ n = 138 ∨ n = 139 ∨ n = 140 ∨ n = 141 ∨ n = 142 ∨ n = 143 := by omega
theorem o2_setc (n : Nat) (h1 : 144 ≤ n) (h2 : n < 160) : n = 144 ∨ n = 145 ∨ n = 146 ∨ n = 147 ∨ n = 148 ∨ n = 149 ∨ n = 150 ∨ n = 151 ∨ n = 152 ∨ n = 153 ∨ n = 154 ∨ n = 155 ∨ n = 156 ∨ n = 157 ∨ n = 158 ∨ n = 159 := by omega
theorem o2_bsw (n : Nat) (h1 : 200 ≤ n) (h2 : n < 208) : n = 200 ∨ n = 201 ∨ n = 202 ∨ n = 203 ∨ n = 204 ∨ n = 205 ∨ n = 206 ∨ n = 207 := by omega
theorem o1_str (n : Nat) (h1 : 164 ≤ n) (h2 : n < 176) (h3 : ¬ n / 2 = 84) : n = 164 ∨ n = 165 ∨ n = 166 ∨ n = 167 ∨ n = 170 ∨ n = 171 ∨ n = 172 ∨ n = 173 ∨ n = 174 ∨ n = 175 := by omega
theorem m16 (n : Nat) : n % 16 = (256 + n) % 16 := by omega
theorem q1_short {n : Nat} (hc : n = 80 ∨ n = 81 ∨ n = 82 ∨ n = 83 ∨ n = 84 ∨ n = 85 ∨ n = 86 ∨ n = 87 ∨ n = 88 ∨ n = 89 ∨ n = 90 ∨ n = 91 ∨ n = 92 ∨ n = 93 ∨ n = 94 ∨ n = 95) (x : Int32) (m : z_Sg) : e_f_Mo_first (nI n) x m = z_eb (e_f_Mo_shortStack (nI n) m) (fun r => ((k_Mo_first_415 r).bind (fun o => some (.inr o)))) := by
  rcases hc with (rfl | rfl | rfl | rfl | rfl | rfl | rfl | rfl | rfl | rfl | rfl | rfl | rfl | rfl | rfl | rfl) <;> rfl
theorem q1_jcc {n : Nat} (hc : n = 112 ∨ n = 113 ∨ n = 114 ∨ n = 115 ∨ n = 116 ∨ n = 117 ∨ n = 118 ∨ n = 119 ∨ n = 120 ∨ n = 121 ∨ n = 122 ∨ n = 123 ∨ n = 124 ∨ n = 125 ∨ n = 126 ∨ n = 127) (x : Int32) (m : z_Sg) : e_f_Mo_first (nI n) x m = (f_Mo_holds (nI n) m).bind (fun r52 => z_eb (e_f_Mo_branch r52 (1 : Int32) m) (fun r => ((k_Mo_first_415 r).bind (fun o => some (.inr o))))) := by
  rcases hc with (rfl | rfl | rfl | rfl | rfl | rfl | rfl | rfl | rfl | rfl | rfl | rfl | rfl | rfl | rfl | rfl) <;> rfl
theorem q1_group {n : Nat} (hc : n = 128 ∨ n = 129 ∨ n = 131) (x : Int32) (m : z_Sg) : e_f_Mo_first (nI n) x m = z_eb (e_f_Mo_group (nI n) x m) (fun r => ((k_Mo_first_415 r).bind (fun o => some (.inr o)))) := by
  rcases hc with (rfl | rfl | rfl) <;> rfl
theorem q1_move {n : Nat} (hc : n = 132 ∨ n = 133 ∨ n = 134 ∨ n = 135 ∨ n = 136 ∨ n = 137 ∨ n = 138 ∨ n = 139) (x : Int32) (m : z_Sg) : e_f_Mo_first (nI n) x m = z_eb (e_f_Mo_move (nI n) x m) (fun r => ((k_Mo_first_415 r).bind (fun o => some (.inr o)))) := by
  rcases hc with (rfl | rfl | rfl | rfl | rfl | rfl | rfl | rfl) <;> rfl
theorem q1_turn {n : Nat} (hc : n = 144 ∨ n = 145 ∨ n = 146 ∨ n = 147 ∨ n = 148 ∨ n = 149 ∨ n = 150 ∨ n = 151 ∨ n = 152 ∨ n = 153) (x : Int32) (m : z_Sg) : e_f_Mo_first (nI n) x m = (f_Mo_turn (nI n) m).bind (fun r => ((k_Mo_first_415 r).bind (fun o => some (.inr o)))) := by
  rcases hc with (rfl | rfl | rfl | rfl | rfl | rfl | rfl | rfl | rfl | rfl) <;> rfl
theorem q1_str {n : Nat} (hc : n = 164 ∨ n = 165 ∨ n = 166 ∨ n = 167 ∨ n = 170 ∨ n = 171 ∨ n = 172 ∨ n = 173 ∨ n = 174 ∨ n = 175) (x : Int32) (m : z_Sg) : e_f_Mo_first (nI n) x m = z_eb (e_f_Mo_string (nI n &&& (254 : Int32)) x m) (fun r => ((k_Mo_first_415 r).bind (fun o => some (.inr o)))) := by
  rcases hc with (rfl | rfl | rfl | rfl | rfl | rfl | rfl | rfl | rfl | rfl) <;> rfl
theorem q1_imm {n : Nat} (hc : n = 176 ∨ n = 177 ∨ n = 178 ∨ n = 179 ∨ n = 180 ∨ n = 181 ∨ n = 182 ∨ n = 183 ∨ n = 184 ∨ n = 185 ∨ n = 186 ∨ n = 187 ∨ n = 188 ∨ n = 189 ∨ n = 190 ∨ n = 191) (x : Int32) (m : z_Sg) : e_f_Mo_first (nI n) x m = z_eb (e_f_Mo_immediate (nI n) m) (fun r => ((k_Mo_first_415 r).bind (fun o => some (.inr o)))) := by
  rcases hc with (rfl | rfl | rfl | rfl | rfl | rfl | rfl | rfl | rfl | rfl | rfl | rfl | rfl | rfl | rfl | rfl) <;> rfl
theorem q1_shift {n : Nat} (hc : n = 192 ∨ n = 193 ∨ n = 208 ∨ n = 209 ∨ n = 210 ∨ n = 211) (x : Int32) (m : z_Sg) : e_f_Mo_first (nI n) x m = z_eb (e_f_Mo_shift (nI n) x m) (fun r => ((k_Mo_first_415 r).bind (fun o => some (.inr o)))) := by
  rcases hc with (rfl | rfl | rfl | rfl | rfl | rfl) <;> rfl
theorem q1_loop {n : Nat} (hc : n = 224 ∨ n = 225 ∨ n = 226 ∨ n = 227) (x : Int32) (m : z_Sg) : e_f_Mo_first (nI n) x m = z_eb (e_f_Mo_loop (nI n) m) (fun r => ((k_Mo_first_415 r).bind (fun o => some (.inr o)))) := by
  rcases hc with (rfl | rfl | rfl | rfl) <;> rfl
theorem q1_flag {n : Nat} (hc : n = 245 ∨ n = 248 ∨ n = 249) (x : Int32) (m : z_Sg) : e_f_Mo_first (nI n) x m = (k_Mo_first_285 (nI n) m).bind (fun o => some (.inr o)) := by
  rcases hc with (rfl | rfl | rfl) <;> rfl
theorem q1_down {n : Nat} (hc : n = 252 ∨ n = 253) (x : Int32) (m : z_Sg) : e_f_Mo_first (nI n) x m = (k_Mo_first_344 (nI n) m).bind (fun o => some (.inr o)) := by
  rcases hc with (rfl | rfl) <;> rfl
theorem q1_unary {n : Nat} (hc : n = 246 ∨ n = 247) (x : Int32) (m : z_Sg) : e_f_Mo_first (nI n) x m = z_eb (e_f_Mo_unary x m) (fun r => ((k_Mo_first_415 r).bind (fun o => some (.inr o)))) := by
  rcases hc with (rfl | rfl) <;> rfl
theorem q1_more {n : Nat} (hc : n = 254 ∨ n = 255) (x : Int32) (m : z_Sg) : e_f_Mo_first (nI n) x m = z_eb (e_f_Mo_more x m) (fun r => ((k_Mo_first_415 r).bind (fun o => some (.inr o)))) := by
  rcases hc with (rfl | rfl) <;> rfl
theorem q1_oth {n : Nat} (hc : n = 99 ∨ n = 104 ∨ n = 106 ∨ n = 105 ∨ n = 107 ∨ n = 141 ∨ n = 143 ∨ n = 156 ∨ n = 157 ∨ n = 168 ∨ n = 169 ∨ n = 194 ∨ n = 195 ∨ n = 198 ∨ n = 199 ∨ n = 201 ∨ n = 232 ∨ n = 233 ∨ n = 235) (x : Int32) (m : z_Sg) : e_f_Mo_first (nI n) x m = z_eb (e_f_Mo_others (nI n) x m) (fun r => ((k_Mo_first_415 r).bind (fun o => some (.inr o)))) := by
  rcases hc with (rfl | rfl | rfl | rfl | rfl | rfl | rfl | rfl | rfl | rfl | rfl | rfl | rfl | rfl | rfl | rfl | rfl | rfl | rfl) <;> rfl
def re1 (n : Nat) : Bool := !(decide (n < 64)) && !(decide (80 ≤ n ∧ n < 96)) && !(decide (112 ≤ n ∧ n < 128)) && !(decide (n = 128 ∨ n = 129 ∨ n = 131)) && !(decide (132 ≤ n ∧ n < 140)) && !(decide (144 ≤ n ∧ n < 154)) && !(decide (164 ≤ n ∧ n < 176 ∧ ¬ n / 2 = 84)) && !(decide (176 ≤ n ∧ n < 192)) && !(decide (n = 192 ∨ n = 193 ∨ n = 208 ∨ n = 209 ∨ n = 210 ∨ n = 211)) && !(decide (224 ≤ n ∧ n < 228)) && !(decide (n = 245 ∨ n = 248 ∨ n = 249)) && !(decide (n = 252 ∨ n = 253)) && !(decide (n = 246 ∨ n = 247)) && !(decide (n = 254 ∨ n = 255)) && !(decide (n = 104 ∨ n = 106)) && !(decide (n = 105 ∨ n = 107)) && !(decide (n = 168 ∨ n = 169)) && !(decide (n = 194 ∨ n = 195)) && !(decide (n = 198 ∨ n = 199)) && !(decide (n = 232 ∨ n = 233 ∨ n = 235)) && !(decide (n = 141)) && !(decide (n = 143)) && !(decide (n = 156)) && !(decide (n = 157)) && !(decide (n = 201)) && !(decide (n = 99))
theorem q1_rest {n : Nat} (hn : n < 256) (hc : re1 n = true) (x : Int32) (m : z_Sg) : e_f_Mo_first (nI n) x m = z_eb (z_eb (e_f_Mo_refuse (6 : Int32) m) (fun r => ((k_Mo_others_261 r).bind (fun o => some (.inr o))))) (fun r => ((k_Mo_first_415 r).bind (fun o => some (.inr o)))) := by
  have t0' : ∀ n, n < 256 → re1 n = true → (64 : Int32) ≤ nI n := by decide +kernel
  have t0 := t0' n hn hc
  have u : ∀ n, n < 256 → re1 n = true → ([128, 129, 131, 192, 193, 245, 248, 249, 252, 253, 246, 247, 254, 255, 99, 104, 106, 105, 107, 141, 143, 156, 157, 168, 169, 194, 195, 198, 199, 201, 232, 233, 235] : List Nat).all (fun c => decide (¬ nI n = nI c)) = true := by decide +kernel
  have t : ∀ n, n < 256 → re1 n = true → ([(80, 95), (112, 127), (132, 139), (144, 153), (164, 175), (176, 191), (208, 211), (224, 227)] : List (Nat × Nat)).all (fun c => decide (nI n < nI c.1 ∨ (¬ nI n < nI c.1 ∧ nI c.2 < nI n))) = true := by decide +kernel
  have uu := List.all_eq_true.mp (u n hn hc)
  have tt := List.all_eq_true.mp (t n hn hc)
  have v128 : ¬ nI n = 128 := of_decide_eq_true (uu 128 (by decide))
  have v129 : ¬ nI n = 129 := of_decide_eq_true (uu 129 (by decide))
  have v131 : ¬ nI n = 131 := of_decide_eq_true (uu 131 (by decide))
  have v192 : ¬ nI n = 192 := of_decide_eq_true (uu 192 (by decide))
  have v193 : ¬ nI n = 193 := of_decide_eq_true (uu 193 (by decide))
  have v245 : ¬ nI n = 245 := of_decide_eq_true (uu 245 (by decide))
  have v248 : ¬ nI n = 248 := of_decide_eq_true (uu 248 (by decide))
  have v249 : ¬ nI n = 249 := of_decide_eq_true (uu 249 (by decide))
  have v252 : ¬ nI n = 252 := of_decide_eq_true (uu 252 (by decide))
  have v253 : ¬ nI n = 253 := of_decide_eq_true (uu 253 (by decide))
  have v246 : ¬ nI n = 246 := of_decide_eq_true (uu 246 (by decide))
  have v247 : ¬ nI n = 247 := of_decide_eq_true (uu 247 (by decide))
  have v254 : ¬ nI n = 254 := of_decide_eq_true (uu 254 (by decide))
  have v255 : ¬ nI n = 255 := of_decide_eq_true (uu 255 (by decide))
  have v99 : ¬ nI n = 99 := of_decide_eq_true (uu 99 (by decide))
  have v104 : ¬ nI n = 104 := of_decide_eq_true (uu 104 (by decide))
  have v106 : ¬ nI n = 106 := of_decide_eq_true (uu 106 (by decide))
  have v105 : ¬ nI n = 105 := of_decide_eq_true (uu 105 (by decide))
  have v107 : ¬ nI n = 107 := of_decide_eq_true (uu 107 (by decide))
  have v141 : ¬ nI n = 141 := of_decide_eq_true (uu 141 (by decide))
  have v143 : ¬ nI n = 143 := of_decide_eq_true (uu 143 (by decide))
  have v156 : ¬ nI n = 156 := of_decide_eq_true (uu 156 (by decide))
  have v157 : ¬ nI n = 157 := of_decide_eq_true (uu 157 (by decide))
  have v168 : ¬ nI n = 168 := of_decide_eq_true (uu 168 (by decide))
  have v169 : ¬ nI n = 169 := of_decide_eq_true (uu 169 (by decide))
  have v194 : ¬ nI n = 194 := of_decide_eq_true (uu 194 (by decide))
  have v195 : ¬ nI n = 195 := of_decide_eq_true (uu 195 (by decide))
  have v198 : ¬ nI n = 198 := of_decide_eq_true (uu 198 (by decide))
  have v199 : ¬ nI n = 199 := of_decide_eq_true (uu 199 (by decide))
  have v201 : ¬ nI n = 201 := of_decide_eq_true (uu 201 (by decide))
  have v232 : ¬ nI n = 232 := of_decide_eq_true (uu 232 (by decide))
  have v233 : ¬ nI n = 233 := of_decide_eq_true (uu 233 (by decide))
  have v235 : ¬ nI n = 235 := of_decide_eq_true (uu 235 (by decide))
  have t80 : nI n < 80 ∨ (¬ nI n < 80 ∧ 95 < nI n) := of_decide_eq_true (tt (80, 95) (by decide))
  have t112 : nI n < 112 ∨ (¬ nI n < 112 ∧ 127 < nI n) := of_decide_eq_true (tt (112, 127) (by decide))
  have t132 : nI n < 132 ∨ (¬ nI n < 132 ∧ 139 < nI n) := of_decide_eq_true (tt (132, 139) (by decide))
  have t144 : nI n < 144 ∨ (¬ nI n < 144 ∧ 153 < nI n) := of_decide_eq_true (tt (144, 153) (by decide))
  have t164 : nI n < 164 ∨ (¬ nI n < 164 ∧ 175 < nI n) := of_decide_eq_true (tt (164, 175) (by decide))
  have t176 : nI n < 176 ∨ (¬ nI n < 176 ∧ 191 < nI n) := of_decide_eq_true (tt (176, 191) (by decide))
  have t208 : nI n < 208 ∨ (¬ nI n < 208 ∧ 211 < nI n) := of_decide_eq_true (tt (208, 211) (by decide))
  have t224 : nI n < 224 ∨ (¬ nI n < 224 ∧ 227 < nI n) := of_decide_eq_true (tt (224, 227) (by decide))
  have a_k_Mo_first_42 : e_f_Mo_first (nI n) x m = e_k_Mo_first_42 (nI n) x m := by
    unfold e_f_Mo_first
    rw [if_pos t0]
    rcases t80 with t1 | ⟨t1, t1'⟩
    · rw [if_pos t1]
    · rw [if_neg t1, if_pos t1']
  have a_k_Mo_first_67 : e_k_Mo_first_42 (nI n) x m = e_k_Mo_first_67 (nI n) x m := by
    unfold e_k_Mo_first_42
    rcases t112 with t1 | ⟨t1, t1'⟩
    · rw [if_pos t1]
    · rw [if_neg t1, if_pos t1']
  have a_k_Mo_first_120 : e_k_Mo_first_67 (nI n) x m = e_k_Mo_first_120 (nI n) x m := by
    unfold e_k_Mo_first_67
    rw [if_neg v128, if_neg v129, if_neg v131]
    rcases t132 with t1 | ⟨t1, t1'⟩
    · rw [if_pos t1]
    · rw [if_neg t1, if_pos t1']
  have a_k_Mo_first_142 : e_k_Mo_first_120 (nI n) x m = e_k_Mo_first_142 (nI n) x m := by
    unfold e_k_Mo_first_120
    rcases t144 with t1 | ⟨t1, t1'⟩
    · rw [if_pos t1]
    · rw [if_neg t1, if_pos t1']
  have a_k_Mo_first_183 : e_k_Mo_first_142 (nI n) x m = e_k_Mo_first_183 (nI n) x m := by
    unfold e_k_Mo_first_142
    rcases t164 with t1 | ⟨t1, t1'⟩
    · rw [if_pos t1]
    · rw [if_neg t1, if_pos t1']
  have a_k_Mo_first_205 : e_k_Mo_first_183 (nI n) x m = e_k_Mo_first_205 (nI n) x m := by
    unfold e_k_Mo_first_183
    rcases t176 with t1 | ⟨t1, t1'⟩
    · rw [if_pos t1]
    · rw [if_neg t1, if_pos t1']
  have a_k_Mo_first_242 : e_k_Mo_first_205 (nI n) x m = e_k_Mo_first_242 (nI n) x m := by
    unfold e_k_Mo_first_205
    rw [if_neg v192, if_neg v193]
    rcases t208 with t1 | ⟨t1, t1'⟩
    · rw [if_pos t1]
    · rw [if_neg t1, if_pos t1']
  have a_k_Mo_first_264 : e_k_Mo_first_242 (nI n) x m = e_k_Mo_first_264 (nI n) x m := by
    unfold e_k_Mo_first_242
    rcases t224 with t1 | ⟨t1, t1'⟩
    · rw [if_pos t1]
    · rw [if_neg t1, if_pos t1']
  rw [a_k_Mo_first_42, a_k_Mo_first_67, a_k_Mo_first_120, a_k_Mo_first_142, a_k_Mo_first_183, a_k_Mo_first_205, a_k_Mo_first_242, a_k_Mo_first_264]
  unfold e_k_Mo_first_264 e_f_Mo_others
  rw [if_neg v245, if_neg v248, if_neg v249, if_neg v252, if_neg v253, if_neg v246, if_neg v247, if_neg v254, if_neg v255, if_neg v99, if_neg v104, if_neg v106, if_neg v105, if_neg v107, if_neg v141, if_neg v143, if_neg v156, if_neg v157, if_neg v168, if_neg v169, if_neg v194, if_neg v195, if_neg v198, if_neg v199, if_neg v201, if_neg v232, if_neg v233, if_neg v235]
theorem fo0 : ∀ n, n < 256 → re1 n = true → foT n = 0 := by decide +kernel
theorem qo_push {n : Nat} (hc : n = 104 ∨ n = 106) (x : Int32) (m : z_Sg) : e_f_Mo_others (nI n) x m = z_eb (e_f_Mo_pushNumber (nI n) m) (fun r => ((k_Mo_others_261 r).bind (fun o => some (.inr o)))) := by
  rcases hc with (rfl | rfl) <;> rfl
theorem qo_prod {n : Nat} (hc : n = 105 ∨ n = 107) (x : Int32) (m : z_Sg) : e_f_Mo_others (nI n) x m = z_eb (e_f_Mo_product (nI n) m) (fun r => ((k_Mo_others_261 r).bind (fun o => some (.inr o)))) := by
  rcases hc with (rfl | rfl) <;> rfl
theorem qo_test {n : Nat} (hc : n = 168 ∨ n = 169) (x : Int32) (m : z_Sg) : e_f_Mo_others (nI n) x m = z_eb (e_f_Mo_testNumber x m) (fun r => ((k_Mo_others_261 r).bind (fun o => some (.inr o)))) := by
  rcases hc with (rfl | rfl) <;> rfl
theorem qo_ret {n : Nat} (hc : n = 194 ∨ n = 195) (x : Int32) (m : z_Sg) : e_f_Mo_others (nI n) x m = z_eb (e_f_Mo_returns (nI n) m) (fun r => ((k_Mo_others_261 r).bind (fun o => some (.inr o)))) := by
  rcases hc with (rfl | rfl) <;> rfl
theorem qo_movn {n : Nat} (hc : n = 198 ∨ n = 199) (x : Int32) (m : z_Sg) : e_f_Mo_others (nI n) x m = z_eb (e_f_Mo_moveNumber x m) (fun r => ((k_Mo_others_261 r).bind (fun o => some (.inr o)))) := by
  rcases hc with (rfl | rfl) <;> rfl
theorem qo_far {n : Nat} (hc : n = 232 ∨ n = 233 ∨ n = 235) (x : Int32) (m : z_Sg) : e_f_Mo_others (nI n) x m = z_eb (e_f_Mo_far (nI n) m) (fun r => ((k_Mo_others_261 r).bind (fun o => some (.inr o)))) := by
  rcases hc with (rfl | rfl | rfl) <;> rfl
theorem qo_141 (x : Int32) (m : z_Sg) : e_f_Mo_others (nI 141) x m = z_eb (e_f_Mo_address m) (fun r => ((k_Mo_others_261 r).bind (fun o => some (.inr o)))) := rfl
theorem qo_143 (x : Int32) (m : z_Sg) : e_f_Mo_others (nI 143) x m = z_eb (e_f_Mo_popOperand m) (fun r => ((k_Mo_others_261 r).bind (fun o => some (.inr o)))) := rfl
theorem qo_156 (x : Int32) (m : z_Sg) : e_f_Mo_others (nI 156) x m = (f_Mo_flags m).bind (fun r31 => (f_Mo_stackSize m).bind (fun r32 => z_eb (e_f_Mo_push (r31 ||| (2 : Int64)) r32 m) (fun r => ((k_Mo_others_261 r).bind (fun o => some (.inr o)))))) := rfl
theorem qo_157 (x : Int32) (m : z_Sg) : e_f_Mo_others (nI 157) x m = (f_Mo_stackSize m).bind (fun r28 => (z_eb (e_f_Mo_pop r28 m) (fun r29 => ((f_Mo_setFlags r29.1 r29.2).bind (fun r30 => ((k_Mo_others_261 r30).bind (fun o => some (.inr o)))))))) := rfl
theorem qo_201 (x : Int32) (m : z_Sg) : e_f_Mo_others (nI 201) x m = z_eb (e_f_Mo_leaveFrame m) (fun r => ((k_Mo_others_261 r).bind (fun o => some (.inr o)))) := rfl
theorem qo_99 (x : Int32) (m : z_Sg) : e_f_Mo_others (nI 99) x m = (f_Mo_wide m).bind (fun r36 => (f_Mo_wide m).bind (fun r37 => if r37 = (2 : Int32) then z_eb (e_f_Mo_extend r36 (2 : Int32) m) (fun r => ((k_Mo_others_261 r).bind (fun o => some (.inr o)))) else z_eb (e_f_Mo_extend r36 (4 : Int32) m) (fun r => ((k_Mo_others_261 r).bind (fun o => some (.inr o)))))) := rfl
theorem q2_jcc {n : Nat} (hc : n = 128 ∨ n = 129 ∨ n = 130 ∨ n = 131 ∨ n = 132 ∨ n = 133 ∨ n = 134 ∨ n = 135 ∨ n = 136 ∨ n = 137 ∨ n = 138 ∨ n = 139 ∨ n = 140 ∨ n = 141 ∨ n = 142 ∨ n = 143) (x : Int32) (m : z_Sg) : e_f_Mo_second (nI n) x m = (f_Mo_holds (nI n) m).bind (fun r49 => z_eb (e_f_Mo_branch r49 (4 : Int32) m) (fun r => ((k_Mo_second_402 r).bind (fun o => some (.inr o))))) := by
  rcases hc with (rfl | rfl | rfl | rfl | rfl | rfl | rfl | rfl | rfl | rfl | rfl | rfl | rfl | rfl | rfl | rfl) <;> rfl
theorem q2_setc {n : Nat} (hc : n = 144 ∨ n = 145 ∨ n = 146 ∨ n = 147 ∨ n = 148 ∨ n = 149 ∨ n = 150 ∨ n = 151 ∨ n = 152 ∨ n = 153 ∨ n = 154 ∨ n = 155 ∨ n = 156 ∨ n = 157 ∨ n = 158 ∨ n = 159) (x : Int32) (m : z_Sg) : e_f_Mo_second (nI n) x m = e_k_Mo_second_84 (nI n) x m := by
  rcases hc with (rfl | rfl | rfl | rfl | rfl | rfl | rfl | rfl | rfl | rfl | rfl | rfl | rfl | rfl | rfl | rfl) <;> rfl
theorem q2_bsw {n : Nat} (hc : n = 200 ∨ n = 201 ∨ n = 202 ∨ n = 203 ∨ n = 204 ∨ n = 205 ∨ n = 206 ∨ n = 207) (x : Int32) (m : z_Sg) : e_f_Mo_second (nI n) x m = (f_Mo_plus (1 : Int32) m).bind (fun r40 => (z_eb (e_f_Mo_turnRound ((nI n - ((nI n / (8 : Int32)) * (8 : Int32))) + r40) m) (fun r41 => ((k_Mo_second_402 r41).bind (fun o => some (.inr o)))))) := by
  rcases hc with (rfl | rfl | rfl | rfl | rfl | rfl | rfl | rfl) <;> rfl
theorem q2_sys {n : Nat} (hc : n = 5 ∨ n = 7) (x : Int32) (m : z_Sg) : e_f_Mo_second (nI n) x m = z_eb (e_f_Mo_system (if n = 5 then 1 else 0) m) (fun r => ((k_Mo_second_402 r).bind (fun o => some (.inr o)))) := by
  rcases hc with (rfl | rfl) <;> rfl
theorem q2_bit {n : Nat} (hc : n = 163 ∨ n = 171 ∨ n = 179 ∨ n = 187 ∨ n = 186) (x : Int32) (m : z_Sg) : e_f_Mo_second (nI n) x m = z_eb (e_f_Mo_bit (nI n) m) (fun r => ((k_Mo_second_402 r).bind (fun o => some (.inr o)))) := by
  rcases hc with (rfl | rfl | rfl | rfl | rfl) <;> rfl
theorem q2_prod {n : Nat} (hc : n = 175) (x : Int32) (m : z_Sg) : e_f_Mo_second (nI n) x m = z_eb (e_f_Mo_product (nI n) m) (fun r => ((k_Mo_second_402 r).bind (fun o => some (.inr o)))) := by
  rcases hc with rfl <;> rfl
theorem q2_cmpx {n : Nat} (hc : n = 176 ∨ n = 177) (x : Int32) (m : z_Sg) : e_f_Mo_second (nI n) x m = z_eb (e_f_Mo_compareAndChange x m) (fun r => ((k_Mo_second_402 r).bind (fun o => some (.inr o)))) := by
  rcases hc with (rfl | rfl) <;> rfl
theorem q2_b6 {n : Nat} (hc : n = 182 ∨ n = 183) (x : Int32) (m : z_Sg) : e_f_Mo_second (nI n) x m = e_k_Mo_second_283 (nI n) m := by
  rcases hc with (rfl | rfl) <;> rfl
theorem q2_be {n : Nat} (hc : n = 190 ∨ n = 191) (x : Int32) (m : z_Sg) : e_f_Mo_second (nI n) x m = (f_Mo_wide m).bind (fun r27 => z_eb (e_f_Mo_extend r27 (nI (n - 189)) m) (fun r => ((k_Mo_second_402 r).bind (fun o => some (.inr o))))) := by
  rcases hc with (rfl | rfl) <;> rfl
theorem q2_scan {n : Nat} (hc : n = 188 ∨ n = 189) (x : Int32) (m : z_Sg) : e_f_Mo_second (nI n) x m = z_eb (e_f_Mo_scan (nI n) m) (fun r => ((k_Mo_second_402 r).bind (fun o => some (.inr o)))) := by
  rcases hc with (rfl | rfl) <;> rfl
theorem q2_xadd {n : Nat} (hc : n = 192 ∨ n = 193) (x : Int32) (m : z_Sg) : e_f_Mo_second (nI n) x m = z_eb (e_f_Mo_addAndChange x m) (fun r => ((k_Mo_second_402 r).bind (fun o => some (.inr o)))) := by
  rcases hc with (rfl | rfl) <;> rfl
def re2 (n : Nat) : Bool := !(decide (64 ≤ n ∧ n < 80)) && !(decide (128 ≤ n ∧ n < 144)) && !(decide (144 ≤ n ∧ n < 160)) && !(decide (200 ≤ n ∧ n < 208)) && !(decide (n = 5 ∨ n = 7)) && !(decide (n = 163 ∨ n = 171 ∨ n = 179 ∨ n = 187)) && !(decide (n = 186)) && !(decide (n = 175)) && !(decide (n = 176 ∨ n = 177)) && !(decide (n = 182 ∨ n = 183)) && !(decide (n = 190 ∨ n = 191)) && !(decide (n = 188 ∨ n = 189)) && !(decide (n = 192 ∨ n = 193))
theorem q2_rest {n : Nat} (hn : n < 256) (hc : re2 n = true) (x : Int32) (m : z_Sg) : e_f_Mo_second (nI n) x m = z_eb (e_f_Mo_refuse (6 : Int32) m) (fun r => ((k_Mo_second_402 r).bind (fun o => some (.inr o)))) := by
  have u : ∀ n, n < 256 → re2 n = true → ([5, 7, 163, 171, 179, 187, 186, 175, 176, 177, 182, 183, 190, 191, 188, 189, 192, 193] : List Nat).all (fun c => decide (¬ nI n = nI c)) = true := by decide +kernel
  have t : ∀ n, n < 256 → re2 n = true → ([(64, 79), (128, 143), (144, 159), (200, 207)] : List (Nat × Nat)).all (fun c => decide (nI n < nI c.1 ∨ (¬ nI n < nI c.1 ∧ nI c.2 < nI n))) = true := by decide +kernel
  have uu := List.all_eq_true.mp (u n hn hc)
  have tt := List.all_eq_true.mp (t n hn hc)
  have v5 : ¬ nI n = 5 := of_decide_eq_true (uu 5 (by decide))
  have v7 : ¬ nI n = 7 := of_decide_eq_true (uu 7 (by decide))
  have v163 : ¬ nI n = 163 := of_decide_eq_true (uu 163 (by decide))
  have v171 : ¬ nI n = 171 := of_decide_eq_true (uu 171 (by decide))
  have v179 : ¬ nI n = 179 := of_decide_eq_true (uu 179 (by decide))
  have v187 : ¬ nI n = 187 := of_decide_eq_true (uu 187 (by decide))
  have v186 : ¬ nI n = 186 := of_decide_eq_true (uu 186 (by decide))
  have v175 : ¬ nI n = 175 := of_decide_eq_true (uu 175 (by decide))
  have v176 : ¬ nI n = 176 := of_decide_eq_true (uu 176 (by decide))
  have v177 : ¬ nI n = 177 := of_decide_eq_true (uu 177 (by decide))
  have v182 : ¬ nI n = 182 := of_decide_eq_true (uu 182 (by decide))
  have v183 : ¬ nI n = 183 := of_decide_eq_true (uu 183 (by decide))
  have v190 : ¬ nI n = 190 := of_decide_eq_true (uu 190 (by decide))
  have v191 : ¬ nI n = 191 := of_decide_eq_true (uu 191 (by decide))
  have v188 : ¬ nI n = 188 := of_decide_eq_true (uu 188 (by decide))
  have v189 : ¬ nI n = 189 := of_decide_eq_true (uu 189 (by decide))
  have v192 : ¬ nI n = 192 := of_decide_eq_true (uu 192 (by decide))
  have v193 : ¬ nI n = 193 := of_decide_eq_true (uu 193 (by decide))
  have t64 : nI n < 64 ∨ (¬ nI n < 64 ∧ 79 < nI n) := of_decide_eq_true (tt (64, 79) (by decide))
  have t128 : nI n < 128 ∨ (¬ nI n < 128 ∧ 143 < nI n) := of_decide_eq_true (tt (128, 143) (by decide))
  have t144 : nI n < 144 ∨ (¬ nI n < 144 ∧ 159 < nI n) := of_decide_eq_true (tt (144, 159) (by decide))
  have t200 : nI n < 200 ∨ (¬ nI n < 200 ∧ 207 < nI n) := of_decide_eq_true (tt (200, 207) (by decide))
  have a_k_Mo_second_57 : e_f_Mo_second (nI n) x m = e_k_Mo_second_57 (nI n) x m := by
    unfold e_f_Mo_second
    rcases t64 with t1 | ⟨t1, t1'⟩
    · rw [if_pos t1]
    · rw [if_neg t1, if_pos t1']
  have a_k_Mo_second_84 : e_k_Mo_second_57 (nI n) x m = e_k_Mo_second_84 (nI n) x m := by
    unfold e_k_Mo_second_57
    rcases t128 with t1 | ⟨t1, t1'⟩
    · rw [if_pos t1]
    · rw [if_neg t1, if_pos t1']
  have a_k_Mo_second_130 : e_k_Mo_second_84 (nI n) x m = e_k_Mo_second_130 (nI n) x m := by
    unfold e_k_Mo_second_84
    rcases t144 with t1 | ⟨t1, t1'⟩
    · rw [if_pos t1]
    · rw [if_neg t1, if_pos t1']
  have a_k_Mo_second_161 : e_k_Mo_second_130 (nI n) x m = e_k_Mo_second_161 (nI n) x m := by
    unfold e_k_Mo_second_130
    rcases t200 with t1 | ⟨t1, t1'⟩
    · rw [if_pos t1]
    · rw [if_neg t1, if_pos t1']
  rw [a_k_Mo_second_57, a_k_Mo_second_84, a_k_Mo_second_130, a_k_Mo_second_161]
  unfold e_k_Mo_second_161
  rw [if_neg v5, if_neg v7, if_neg v163, if_neg v171, if_neg v179, if_neg v187, if_neg v186, if_neg v175, if_neg v176, if_neg v177, if_neg v182, if_neg v183, if_neg v190, if_neg v191, if_neg v188, if_neg v189, if_neg v192, if_neg v193]
theorem ft0 : ∀ n, n < 256 → re2 n = true → ftT n = 0 := by decide +kernel
theorem c415 (a : z_Sg) : k_Mo_first_415 a = some a := rfl
theorem c261 (a : z_Sg) : k_Mo_others_261 a = some a := rfl
theorem c402 (a : z_Sg) : k_Mo_second_402 a = some a := rfl
theorem r_b2 {k0 : z_Sg} {α : Type} {x : Option (Int32 × z_Sg)} {y : Option α} {f g : α → Option (Sum z_Dd z_Sg)} {Q : z_Sg → z_Sg → Prop} (he : ∀ a, g a = f a) (h : z_r k0 x (y.bind f) Q) : z_r k0 x (y.bind g) Q := by
  rw [show g = f from funext he]; exact h

theorem top1 {k0 k m : z_Sg} {n : Nat} (hn : n < 256) (h : TQ (nI n) k0 k m) (hg : z_gL m 7 = z_gL m 0 + (z_gI m 6).toInt64) (hrp : rp (z_gI m 11)) : z_r k0 ((k_De_decode_43 (-1) (nI (foT n)) k).bind S1) (e_f_Mo_first (nI n) (nI (szO n (z_gI m 10) (z_gI m 16))) m) FQQ := by
  by_cases c0 : n < 64
  · have c : ∀ n, n < 64 → ¬ (64 : Int32) ≤ nI n ∧ nI n / (8 : Int32) = nI (n / 8) ∧ nI n - nI n / (8 : Int32) * (8 : Int32) = nI (n % 8) := by decide +kernel
    obtain ⟨d1, d2, d3⟩ := c n c0
    unfold e_f_Mo_first
    rw [if_neg d1, eb_id _ _ c415, d3, d2]
    exact g_arith c0 h
  by_cases c_short : 80 ≤ n ∧ n < 96
  · rw [q1_short (o1_short n c_short.1 c_short.2), eb_id _ _ c415]
    by_cases d : n < 88
    · rw [show foT n = 1 from foT_s n c_short.1 c_short.2]; exact g_push c_short.1 d h hg
    · rw [show foT n = 1 from foT_s n c_short.1 c_short.2]; exact g_pop (Nat.le_of_not_lt d) c_short.2 h hg
  by_cases c_jcc : 112 ≤ n ∧ n < 128
  · rw [q1_jcc (o1_jcc n c_jcc.1 c_jcc.2)]
    refine r_b2 (f := fun r52 => e_f_Mo_branch r52 (nI 1) m) (fun a => eb_id _ _ c415) ?_
    rw [show foT n = 12 from foT_j n c_jcc.1 c_jcc.2]
    exact g_jcc (Or.inl ⟨c_jcc.1, c_jcc.2, rfl⟩) (by decide) (by decide) (by decide) (bn_1 (by decide)) h hn rfl
  by_cases c_group : n = 128 ∨ n = 129 ∨ n = 131
  · rw [q1_group c_group, eb_id _ _ c415]; exact g_group c_group h
  by_cases c_move : 132 ≤ n ∧ n < 140
  · rw [q1_move (o1_move n c_move.1 c_move.2), eb_id _ _ c415, show foT n = 2 from foT_m n c_move.1 c_move.2]; exact g_move c_move.1 c_move.2 h
  by_cases c_turn : 144 ≤ n ∧ n < 154
  · rw [q1_turn (o1_turn n c_turn.1 c_turn.2), show foT n = 1 from foT_t n c_turn.1 c_turn.2]; exact g_turn c_turn.1 c_turn.2 h hg
  by_cases c_str : 164 ≤ n ∧ n < 176 ∧ ¬ n / 2 = 84
  · rw [q1_str (o1_str n c_str.1 c_str.2.1 c_str.2.2), eb_id _ _ c415, show foT n = 1 from foT_g n c_str.1 c_str.2.1 c_str.2.2]; exact g_str c_str.1 c_str.2.1 c_str.2.2 h hg hrp
  by_cases c_imm : 176 ≤ n ∧ n < 192
  · rw [q1_imm (o1_imm n c_imm.1 c_imm.2), eb_id _ _ c415]; exact g_imm c_imm.1 c_imm.2 h
  by_cases c_shift : n = 192 ∨ n = 193 ∨ n = 208 ∨ n = 209 ∨ n = 210 ∨ n = 211
  · rw [q1_shift c_shift, eb_id _ _ c415]; exact g_shift c_shift h
  by_cases c_loop : 224 ≤ n ∧ n < 228
  · rw [q1_loop (o1_loop n c_loop.1 c_loop.2), eb_id _ _ c415]; exact g_loop c_loop.1 c_loop.2 h
  by_cases c_flag : n = 245 ∨ n = 248 ∨ n = 249
  · rw [q1_flag c_flag, show foT n = 1 from by rcases c_flag with rfl | rfl | rfl <;> rfl]; exact g_flag c_flag h hg
  by_cases c_down : n = 252 ∨ n = 253
  · rw [q1_down c_down, show foT n = 1 from by rcases c_down with rfl | rfl <;> rfl]; exact g_down c_down h hg
  by_cases c_unary : n = 246 ∨ n = 247
  · rw [q1_unary c_unary, eb_id _ _ c415, show foT n = 2 from by rcases c_unary with rfl | rfl <;> rfl]; exact g_unary c_unary h
  by_cases c_more : n = 254 ∨ n = 255
  · rw [q1_more c_more, eb_id _ _ c415, show foT n = 2 from by rcases c_more with rfl | rfl <;> rfl]; exact g_more c_more h
  by_cases c_push : n = 104 ∨ n = 106
  · rw [q1_oth (by rcases c_push with (rfl | rfl) <;> decide), eb_id _ _ c415, qo_push c_push, eb_id _ _ c261]; exact g_pushn c_push h
  by_cases c_prod : n = 105 ∨ n = 107
  · rw [q1_oth (by rcases c_prod with (rfl | rfl) <;> decide), eb_id _ _ c415, qo_prod c_prod, eb_id _ _ c261]; exact g_imul3 c_prod h
  by_cases c_test : n = 168 ∨ n = 169
  · rw [q1_oth (by rcases c_test with (rfl | rfl) <;> decide), eb_id _ _ c415, qo_test c_test, eb_id _ _ c261]; exact g_testn c_test h
  by_cases c_ret : n = 194 ∨ n = 195
  · rw [q1_oth (by rcases c_ret with (rfl | rfl) <;> decide), eb_id _ _ c415, qo_ret c_ret, eb_id _ _ c261]; exact g_ret c_ret h hg
  by_cases c_movn : n = 198 ∨ n = 199
  · rw [q1_oth (by rcases c_movn with (rfl | rfl) <;> decide), eb_id _ _ c415, qo_movn c_movn, eb_id _ _ c261]; exact g_movn c_movn h
  by_cases c_far : n = 232 ∨ n = 233 ∨ n = 235
  · rw [q1_oth (by rcases c_far with (rfl | rfl | rfl) <;> decide), eb_id _ _ c415, qo_far c_far, eb_id _ _ c261]; exact g_far c_far h
  by_cases c_141 : n = 141
  · rw [q1_oth (by rcases c_141 with rfl <;> decide), eb_id _ _ c415, c_141, qo_141, eb_id _ _ c261]; rw [c_141] at h; exact g_lea h
  by_cases c_143 : n = 143
  · rw [q1_oth (by rcases c_143 with rfl <;> decide), eb_id _ _ c415, c_143, qo_143, eb_id _ _ c261]; rw [c_143] at h; exact g_popm h
  by_cases c_156 : n = 156
  · rw [q1_oth (by rcases c_156 with rfl <;> decide), eb_id _ _ c415, c_156, qo_156]; rw [c_156] at h
    refine r_b2 (f := fun r31 => (f_Mo_stackSize m).bind (fun r32 => e_f_Mo_push (r31 ||| (2 : Int64)) r32 m)) (fun a => ?_) (g_pushf h hg)
    congr 1; funext b; exact eb_id _ _ c261
  by_cases c_157 : n = 157
  · rw [q1_oth (by rcases c_157 with rfl <;> decide), eb_id _ _ c415, c_157, qo_157]; rw [c_157] at h; exact g_popf h hg
  by_cases c_201 : n = 201
  · rw [q1_oth (by rcases c_201 with rfl <;> decide), eb_id _ _ c415, c_201, qo_201, eb_id _ _ c261]; rw [c_201] at h; exact g_leave h hg
  by_cases c_99 : n = 99
  · rw [q1_oth (by rcases c_99 with rfl <;> decide), eb_id _ _ c415, c_99, qo_99, M_wide, po_bs2, po_bs2]; rw [c_99] at h
    have := g_63 h
    unfold z4 at this
    rcases szV_in (z_gI m 10) (z_gI m 16) with d | d | d
    · rw [d] at this; rw [d, if_pos (show nI 2 = 2 from rfl), eb_id _ _ c261]; exact this
    · rw [d] at this; rw [d, if_neg (by decide), eb_id _ _ c261]; exact this
    · rw [d] at this; rw [d, if_neg (by decide), eb_id _ _ c261]; exact this
  have r0 : re1 n = true := by
    unfold re1
    rw [decide_eq_false c0, decide_eq_false c_short, decide_eq_false c_jcc, decide_eq_false c_group, decide_eq_false c_move, decide_eq_false c_turn, decide_eq_false c_str, decide_eq_false c_imm, decide_eq_false c_shift, decide_eq_false c_loop, decide_eq_false c_flag, decide_eq_false c_down, decide_eq_false c_unary, decide_eq_false c_more, decide_eq_false c_push, decide_eq_false c_prod, decide_eq_false c_test, decide_eq_false c_ret, decide_eq_false c_movn, decide_eq_false c_far, decide_eq_false c_141, decide_eq_false c_143, decide_eq_false c_156, decide_eq_false c_157, decide_eq_false c_201, decide_eq_false c_99]; rfl
  rw [q1_rest hn r0, fo0 n hn r0, eb_eb]
  exact dec_t0 (TQ_k h) (TQ_d h)
theorem top2 {k0 k m : z_Sg} {n : Nat} (hn : n < 256) (h : TQ (nI (256 + n)) k0 k m) (hg : z_gL m 7 = z_gL m 0 + (z_gI m 6).toInt64) : z_r k0 ((k_De_decode_43 (-1) (nI (ftT n)) k).bind S1) (e_f_Mo_second (nI n) (nI (szO (256 + n) (z_gI m 10) (z_gI m 16))) m) FQQ := by
  have es : 256 + n - 256 = n := by omega
  by_cases c_cmov : 64 ≤ n ∧ n < 80
  · rw [show ftT n = 2 from ftT_cmov n c_cmov.1 c_cmov.2]; have := g_cmov (n := 256 + n) (Nat.add_le_add_left c_cmov.1 256) (Nat.add_lt_add_left c_cmov.2 256) h (nI (szO (256 + n) (z_gI m 10) (z_gI m 16))); rw [es] at this; exact this
  by_cases c_jcc : 128 ≤ n ∧ n < 144
  · rw [q2_jcc (o2_jcc n c_jcc.1 c_jcc.2), show ftT n = 36 from ftT_jcc n c_jcc.1 c_jcc.2]
    refine r_b2 (f := fun r52 => e_f_Mo_branch r52 (nI 4) m) (fun a => eb_id _ _ c402) ?_
    exact g_jcc (n := 256 + n) (Or.inr ⟨Nat.add_le_add_left c_jcc.1 256, Nat.add_lt_add_left c_jcc.2 256, rfl⟩) (by decide) (by decide) (by decide) rfl h hn (m16 n)
  by_cases c_setc : 144 ≤ n ∧ n < 160
  · rw [q2_setc (o2_setc n c_setc.1 c_setc.2), show ftT n = 2 from ftT_setc n c_setc.1 c_setc.2]; have := g_setc (n := 256 + n) (Nat.add_le_add_left c_setc.1 256) (Nat.add_lt_add_left c_setc.2 256) h (nI (szO (256 + n) (z_gI m 10) (z_gI m 16))); rw [es] at this; exact this
  by_cases c_bsw : 200 ≤ n ∧ n < 208
  · rw [q2_bsw (o2_bsw n c_bsw.1 c_bsw.2), show ftT n = 1 from ftT_bsw n c_bsw.1 c_bsw.2]; have := g_bswap (n := 256 + n) (Nat.add_le_add_left c_bsw.1 256) (Nat.add_lt_add_left c_bsw.2 256) h hg; rw [es] at this; exact this
  by_cases c_sys : n = 5 ∨ n = 7
  · rw [q2_sys c_sys, eb_id _ _ c402, show ftT n = 1 from by rcases c_sys with (rfl | rfl) <;> rfl]; have := g_sys (n := 256 + n) (by rcases c_sys with (rfl | rfl) <;> decide) h hg; rw [show (if 256 + n = 261 then (1 : Int32) else 0) = if n = 5 then 1 else 0 from by rcases c_sys with rfl | rfl <;> rfl] at this; exact this
  by_cases c_bit : n = 163 ∨ n = 171 ∨ n = 179 ∨ n = 187
  · rw [q2_bit (by rcases c_bit with (rfl | rfl | rfl | rfl) <;> decide), eb_id _ _ c402, show ftT n = 2 from by rcases c_bit with (rfl | rfl | rfl | rfl) <;> rfl]; have := g_bit (n := 256 + n) (by rcases c_bit with (rfl | rfl | rfl | rfl) <;> decide) h; rw [es] at this; exact this
  by_cases c_bitn : n = 186
  · rw [q2_bit (by rw [c_bitn]; decide), eb_id _ _ c402, c_bitn]; rw [c_bitn] at h; exact g_bitn h
  by_cases c_prod : n = 175
  · rw [q2_prod c_prod, eb_id _ _ c402, c_prod]; rw [c_prod] at h; exact g_imul2 h
  by_cases c_cmpx : n = 176 ∨ n = 177
  · rw [q2_cmpx c_cmpx, eb_id _ _ c402, show ftT n = 2 from by rcases c_cmpx with (rfl | rfl) <;> rfl]; exact g_cmpx (n := 256 + n) (by rcases c_cmpx with (rfl | rfl) <;> decide) h
  by_cases c_b6 : n = 182 ∨ n = 183
  · rw [q2_b6 c_b6, show ftT n = 2 from by rcases c_b6 with (rfl | rfl) <;> rfl]; have := g_b6 (n := 256 + n) (f := n - 181) (by rcases c_b6 with (rfl | rfl) <;> decide) h; rw [es] at this; exact this
  by_cases c_be : n = 190 ∨ n = 191
  · rw [q2_be c_be, M_wide, po_bs2, eb_id _ _ c402, show ftT n = 2 from by rcases c_be with (rfl | rfl) <;> rfl]; exact g_be (n := 256 + n) (f := n - 189) (by rcases c_be with (rfl | rfl) <;> decide) h
  by_cases c_scan : n = 188 ∨ n = 189
  · rw [q2_scan c_scan, eb_id _ _ c402, show ftT n = 2 from by rcases c_scan with (rfl | rfl) <;> rfl]; have := g_scan (n := 256 + n) (by rcases c_scan with (rfl | rfl) <;> decide) h; rw [es] at this; exact this
  by_cases c_xadd : n = 192 ∨ n = 193
  · rw [q2_xadd c_xadd, eb_id _ _ c402, show ftT n = 2 from by rcases c_xadd with (rfl | rfl) <;> rfl]; exact g_xadd (n := 256 + n) (by rcases c_xadd with (rfl | rfl) <;> decide) h
  have r0 : re2 n = true := by
    unfold re2
    rw [decide_eq_false c_cmov, decide_eq_false c_jcc, decide_eq_false c_setc, decide_eq_false c_bsw, decide_eq_false c_sys, decide_eq_false c_bit, decide_eq_false c_bitn, decide_eq_false c_prod, decide_eq_false c_cmpx, decide_eq_false c_b6, decide_eq_false c_be, decide_eq_false c_scan, decide_eq_false c_xadd]; rfl
  rw [q2_rest hn r0, ft0 n hn r0]
  exact dec_t0 (TQ_k h) (TQ_d h)
