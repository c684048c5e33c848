theorem ac_long : Cond.arrayClass .long ∈ z_tbl := z_at (k := 81) (by decide +kernel) rfl
theorem cl_Co_9 : Cond.classLink z_RCo 9 z_RSt ∈ z_tbl := z_at (k := 24) (by decide +kernel) rfl
theorem is_St : Cond.instantiable z_RSt 10 ∈ z_tbl := z_at (k := 25) (by decide +kernel) rfl
theorem in_St : Cond.initialized z_RSt ∈ z_tbl := z_at (k := 2) (by decide +kernel) rfl
set_option maxRecDepth 100000 in
theorem mi_St : z_mi y_St_init b_St_init 1 0 := ⟨z_at (k := 27) (by decide +kernel) rfl, z_at (k := 2) (by decide +kernel) rfl, z_at (k := 28) rfl rfl, by decide +kernel⟩
theorem cl_Co_16 : Cond.classLink z_RCo 16 z_RPa ∈ z_tbl := z_at (k := 82) (by decide +kernel) rfl
theorem is_Pa : Cond.instantiable z_RPa 2 ∈ z_tbl := z_at (k := 83) (by decide +kernel) rfl
theorem in_Pa : Cond.initialized z_RPa ∈ z_tbl := z_at (k := 3) (by decide +kernel) rfl
set_option maxRecDepth 100000 in
theorem mi_Pa : z_mi y_Pa_init b_Pa_init 2 1 := ⟨z_at (k := 85) (by decide +kernel) rfl, z_at (k := 3) (by decide +kernel) rfl, z_at (k := 86) rfl rfl, by decide +kernel⟩
theorem cl_Co_25 : Cond.classLink z_RCo 25 z_RDe ∈ z_tbl := z_at (k := 95) (by decide +kernel) rfl
theorem is_De : Cond.instantiable z_RDe 19 ∈ z_tbl := z_at (k := 96) (by decide +kernel) rfl
theorem in_De : Cond.initialized z_RDe ∈ z_tbl := z_at (k := 4) (by decide +kernel) rfl
set_option maxRecDepth 100000 in
theorem mi_De : z_mi y_De_init b_De_init 3 2 := ⟨z_at (k := 98) (by decide +kernel) rfl, z_at (k := 4) (by decide +kernel) rfl, z_at (k := 99) rfl rfl, by decide +kernel⟩
theorem cl_Co_34 : Cond.classLink z_RCo 34 z_ROp ∈ z_tbl := z_at (k := 179) (by decide +kernel) rfl
theorem is_Op : Cond.instantiable z_ROp 4 ∈ z_tbl := z_at (k := 180) (by decide +kernel) rfl
theorem in_Op : Cond.initialized z_ROp ∈ z_tbl := z_at (k := 5) (by decide +kernel) rfl
theorem cl_Co_36 : Cond.classLink z_RCo 36 z_RSp ∈ z_tbl := z_at (k := 181) (by decide +kernel) rfl
theorem is_Sp : Cond.instantiable z_RSp 3 ∈ z_tbl := z_at (k := 182) (by decide +kernel) rfl
theorem in_Sp : Cond.initialized z_RSp ∈ z_tbl := z_at (k := 6) (by decide +kernel) rfl
set_option maxRecDepth 100000 in
theorem mi_Sp : z_mi y_Sp_init b_Sp_init 2 1 := ⟨z_at (k := 184) (by decide +kernel) rfl, z_at (k := 6) (by decide +kernel) rfl, z_at (k := 185) rfl rfl, by decide +kernel⟩
set_option maxRecDepth 100000 in
theorem mi_Op : z_mi y_Op_init b_Op_init 4 3 := ⟨z_at (k := 198) (by decide +kernel) rfl, z_at (k := 5) (by decide +kernel) rfl, z_at (k := 199) rfl rfl, by decide +kernel⟩
theorem cl_Co_48 : Cond.classLink z_RCo 48 z_RAr ∈ z_tbl := z_at (k := 216) (by decide +kernel) rfl
theorem is_Ar : Cond.instantiable z_RAr 1 ∈ z_tbl := z_at (k := 217) (by decide +kernel) rfl
theorem in_Ar : Cond.initialized z_RAr ∈ z_tbl := z_at (k := 7) (by decide +kernel) rfl
set_option maxRecDepth 100000 in
theorem mi_Ar : z_mi y_Ar_init b_Ar_init 2 1 := ⟨z_at (k := 219) (by decide +kernel) rfl, z_at (k := 7) (by decide +kernel) rfl, z_at (k := 220) rfl rfl, by decide +kernel⟩
theorem cl_Co_51 : Cond.classLink z_RCo 51 z_RWi ∈ z_tbl := z_at (k := 226) (by decide +kernel) rfl
theorem is_Wi : Cond.instantiable z_RWi 3 ∈ z_tbl := z_at (k := 227) (by decide +kernel) rfl
theorem in_Wi : Cond.initialized z_RWi ∈ z_tbl := z_at (k := 8) (by decide +kernel) rfl
set_option maxRecDepth 100000 in
theorem mi_Wi : z_mi y_Wi_init b_Wi_init 2 1 := ⟨z_at (k := 229) (by decide +kernel) rfl, z_at (k := 8) (by decide +kernel) rfl, z_at (k := 230) rfl rfl, by decide +kernel⟩
theorem cl_Co_56 : Cond.classLink z_RCo 56 z_RFl ∈ z_tbl := z_at (k := 245) (by decide +kernel) rfl
theorem is_Fl : Cond.instantiable z_RFl 5 ∈ z_tbl := z_at (k := 246) (by decide +kernel) rfl
theorem in_Fl : Cond.initialized z_RFl ∈ z_tbl := z_at (k := 9) (by decide +kernel) rfl
set_option maxRecDepth 100000 in
theorem mi_Fl : z_mi y_Fl_init b_Fl_init 6 5 := ⟨z_at (k := 248) (by decide +kernel) rfl, z_at (k := 9) (by decide +kernel) rfl, z_at (k := 249) rfl rfl, by decide +kernel⟩
theorem cl_Co_65 : Cond.classLink z_RCo 65 z_RSr ∈ z_tbl := z_at (k := 267) (by decide +kernel) rfl
theorem is_Sr : Cond.instantiable z_RSr 6 ∈ z_tbl := z_at (k := 268) (by decide +kernel) rfl
theorem in_Sr : Cond.initialized z_RSr ∈ z_tbl := z_at (k := 10) (by decide +kernel) rfl
set_option maxRecDepth 100000 in
theorem mi_Sr : z_mi y_Sr_init b_Sr_init 7 6 := ⟨z_at (k := 270) (by decide +kernel) rfl, z_at (k := 10) (by decide +kernel) rfl, z_at (k := 271) rfl rfl, by decide +kernel⟩
theorem cl_Co_74 : Cond.classLink z_RCo 74 z_ROn ∈ z_tbl := z_at (k := 292) (by decide +kernel) rfl
theorem is_On : Cond.instantiable z_ROn 5 ∈ z_tbl := z_at (k := 293) (by decide +kernel) rfl
theorem in_On : Cond.initialized z_ROn ∈ z_tbl := z_at (k := 11) (by decide +kernel) rfl
set_option maxRecDepth 100000 in
theorem mi_On : z_mi y_On_init b_On_init 6 5 := ⟨z_at (k := 295) (by decide +kernel) rfl, z_at (k := 11) (by decide +kernel) rfl, z_at (k := 296) rfl rfl, by decide +kernel⟩
theorem cl_Co_83 : Cond.classLink z_RCo 83 z_RTw ∈ z_tbl := z_at (k := 314) (by decide +kernel) rfl
theorem is_Tw : Cond.instantiable z_RTw 4 ∈ z_tbl := z_at (k := 315) (by decide +kernel) rfl
theorem in_Tw : Cond.initialized z_RTw ∈ z_tbl := z_at (k := 12) (by decide +kernel) rfl
set_option maxRecDepth 100000 in
theorem mi_Tw : z_mi y_Tw_init b_Tw_init 5 4 := ⟨z_at (k := 317) (by decide +kernel) rfl, z_at (k := 12) (by decide +kernel) rfl, z_at (k := 318) rfl rfl, by decide +kernel⟩
theorem ac_byte : Cond.arrayClass .byte ∈ z_tbl := z_at (k := 1041) (by decide +kernel) rfl
theorem ac_boolean : Cond.arrayClass .boolean ∈ z_tbl := z_at (k := 1042) (by decide +kernel) rfl
theorem ac_int : Cond.arrayClass .int ∈ z_tbl := z_at (k := 1043) (by decide +kernel) rfl
theorem d_St_init_0 : decode b_St_init 0 = .ok (.aload_n 0, 1) := by decide +kernel
theorem d_St_init_1 : decode b_St_init 1 = .ok (.invokespecial 1, 3) := by decide +kernel
theorem d_St_init_4 : decode b_St_init 4 = .ok (.aload_n 0, 1) := by decide +kernel
theorem d_St_init_5 : decode b_St_init 5 = .ok (.bipush 16, 2) := by decide +kernel
theorem d_St_init_7 : decode b_St_init 7 = .ok (.newarray .long, 2) := by decide +kernel
theorem d_St_init_9 : decode b_St_init 9 = .ok (.putfield 7, 3) := by decide +kernel
theorem d_St_init_12 : decode b_St_init 12 = .ok (.return_, 1) := by decide +kernel
theorem d_Pa_init_0 : decode b_Pa_init 0 = .ok (.aload_n 0, 1) := by decide +kernel
theorem d_Pa_init_1 : decode b_Pa_init 1 = .ok (.invokespecial 3, 3) := by decide +kernel
theorem d_Pa_init_4 : decode b_Pa_init 4 = .ok (.aload_n 0, 1) := by decide +kernel
theorem d_Pa_init_5 : decode b_Pa_init 5 = .ok (.sipush 4096, 3) := by decide +kernel
theorem d_Pa_init_8 : decode b_Pa_init 8 = .ok (.newarray .long, 2) := by decide +kernel
theorem d_Pa_init_10 : decode b_Pa_init 10 = .ok (.putfield 11, 3) := by decide +kernel
theorem d_Pa_init_13 : decode b_Pa_init 13 = .ok (.aload_n 0, 1) := by decide +kernel
theorem d_Pa_init_14 : decode b_Pa_init 14 = .ok (.aload_n 1, 1) := by decide +kernel
theorem d_Pa_init_15 : decode b_Pa_init 15 = .ok (.putfield 15, 3) := by decide +kernel
theorem d_Pa_init_18 : decode b_Pa_init 18 = .ok (.return_, 1) := by decide +kernel
theorem d_Sp_init_0 : decode b_Sp_init 0 = .ok (.aload_n 0, 1) := by decide +kernel
theorem d_Sp_init_1 : decode b_Sp_init 1 = .ok (.invokespecial 3, 3) := by decide +kernel
theorem d_Sp_init_4 : decode b_Sp_init 4 = .ok (.aload_n 0, 1) := by decide +kernel
theorem d_Sp_init_5 : decode b_Sp_init 5 = .ok (.bipush 8, 2) := by decide +kernel
theorem d_Sp_init_7 : decode b_Sp_init 7 = .ok (.newarray .long, 2) := by decide +kernel
theorem d_Sp_init_9 : decode b_Sp_init 9 = .ok (.putfield 9, 3) := by decide +kernel
theorem d_Sp_init_12 : decode b_Sp_init 12 = .ok (.aload_n 0, 1) := by decide +kernel
theorem d_Sp_init_13 : decode b_Sp_init 13 = .ok (.aload_n 1, 1) := by decide +kernel
theorem d_Sp_init_14 : decode b_Sp_init 14 = .ok (.putfield 15, 3) := by decide +kernel
theorem d_Sp_init_17 : decode b_Sp_init 17 = .ok (.return_, 1) := by decide +kernel
theorem d_De_init_0 : decode b_De_init 0 = .ok (.aload_n 0, 1) := by decide +kernel
theorem d_De_init_1 : decode b_De_init 1 = .ok (.invokespecial 3, 3) := by decide +kernel
theorem d_De_init_4 : decode b_De_init 4 = .ok (.aload_n 0, 1) := by decide +kernel
theorem d_De_init_5 : decode b_De_init 5 = .ok (.aload_n 1, 1) := by decide +kernel
theorem d_De_init_6 : decode b_De_init 6 = .ok (.putfield 9, 3) := by decide +kernel
theorem d_De_init_9 : decode b_De_init 9 = .ok (.aload_n 0, 1) := by decide +kernel
theorem d_De_init_10 : decode b_De_init 10 = .ok (.aload_n 2, 1) := by decide +kernel
theorem d_De_init_11 : decode b_De_init 11 = .ok (.putfield 15, 3) := by decide +kernel
theorem d_De_init_14 : decode b_De_init 14 = .ok (.return_, 1) := by decide +kernel
theorem d_Op_init_0 : decode b_Op_init 0 = .ok (.aload_n 0, 1) := by decide +kernel
theorem d_Op_init_1 : decode b_Op_init 1 = .ok (.invokespecial 3, 3) := by decide +kernel
theorem d_Op_init_4 : decode b_Op_init 4 = .ok (.aload_n 0, 1) := by decide +kernel
theorem d_Op_init_5 : decode b_Op_init 5 = .ok (.aload_n 1, 1) := by decide +kernel
theorem d_Op_init_6 : decode b_Op_init 6 = .ok (.putfield 9, 3) := by decide +kernel
theorem d_Op_init_9 : decode b_Op_init 9 = .ok (.aload_n 0, 1) := by decide +kernel
theorem d_Op_init_10 : decode b_Op_init 10 = .ok (.aload_n 2, 1) := by decide +kernel
theorem d_Op_init_11 : decode b_Op_init 11 = .ok (.putfield 15, 3) := by decide +kernel
theorem d_Op_init_14 : decode b_Op_init 14 = .ok (.aload_n 0, 1) := by decide +kernel
theorem d_Op_init_15 : decode b_Op_init 15 = .ok (.aload_n 3, 1) := by decide +kernel
theorem d_Op_init_16 : decode b_Op_init 16 = .ok (.putfield 19, 3) := by decide +kernel
theorem d_Op_init_19 : decode b_Op_init 19 = .ok (.return_, 1) := by decide +kernel
theorem d_Ar_init_0 : decode b_Ar_init 0 = .ok (.aload_n 0, 1) := by decide +kernel
theorem d_Ar_init_1 : decode b_Ar_init 1 = .ok (.invokespecial 3, 3) := by decide +kernel
theorem d_Ar_init_4 : decode b_Ar_init 4 = .ok (.aload_n 0, 1) := by decide +kernel
theorem d_Ar_init_5 : decode b_Ar_init 5 = .ok (.aload_n 1, 1) := by decide +kernel
theorem d_Ar_init_6 : decode b_Ar_init 6 = .ok (.putfield 9, 3) := by decide +kernel
theorem d_Ar_init_9 : decode b_Ar_init 9 = .ok (.return_, 1) := by decide +kernel
theorem d_Wi_init_0 : decode b_Wi_init 0 = .ok (.aload_n 0, 1) := by decide +kernel
theorem d_Wi_init_1 : decode b_Wi_init 1 = .ok (.invokespecial 3, 3) := by decide +kernel
theorem d_Wi_init_4 : decode b_Wi_init 4 = .ok (.aload_n 0, 1) := by decide +kernel
theorem d_Wi_init_5 : decode b_Wi_init 5 = .ok (.aload_n 1, 1) := by decide +kernel
theorem d_Wi_init_6 : decode b_Wi_init 6 = .ok (.putfield 9, 3) := by decide +kernel
theorem d_Wi_init_9 : decode b_Wi_init 9 = .ok (.return_, 1) := by decide +kernel
theorem d_Fl_init_0 : decode b_Fl_init 0 = .ok (.aload_n 0, 1) := by decide +kernel
theorem d_Fl_init_1 : decode b_Fl_init 1 = .ok (.invokespecial 3, 3) := by decide +kernel
theorem d_Fl_init_4 : decode b_Fl_init 4 = .ok (.aload_n 0, 1) := by decide +kernel
theorem d_Fl_init_5 : decode b_Fl_init 5 = .ok (.aload_n 1, 1) := by decide +kernel
theorem d_Fl_init_6 : decode b_Fl_init 6 = .ok (.putfield 9, 3) := by decide +kernel
theorem d_Fl_init_9 : decode b_Fl_init 9 = .ok (.aload_n 0, 1) := by decide +kernel
theorem d_Fl_init_10 : decode b_Fl_init 10 = .ok (.aload_n 2, 1) := by decide +kernel
theorem d_Fl_init_11 : decode b_Fl_init 11 = .ok (.putfield 15, 3) := by decide +kernel
theorem d_Fl_init_14 : decode b_Fl_init 14 = .ok (.aload_n 0, 1) := by decide +kernel
theorem d_Fl_init_15 : decode b_Fl_init 15 = .ok (.aload_n 3, 1) := by decide +kernel
theorem d_Fl_init_16 : decode b_Fl_init 16 = .ok (.putfield 19, 3) := by decide +kernel
theorem d_Fl_init_19 : decode b_Fl_init 19 = .ok (.aload_n 0, 1) := by decide +kernel
theorem d_Fl_init_20 : decode b_Fl_init 20 = .ok (.aload 4, 2) := by decide +kernel
theorem d_Fl_init_22 : decode b_Fl_init 22 = .ok (.putfield 23, 3) := by decide +kernel
theorem d_Fl_init_25 : decode b_Fl_init 25 = .ok (.aload_n 0, 1) := by decide +kernel
theorem d_Fl_init_26 : decode b_Fl_init 26 = .ok (.aload 5, 2) := by decide +kernel
theorem d_Fl_init_28 : decode b_Fl_init 28 = .ok (.putfield 27, 3) := by decide +kernel
theorem d_Fl_init_31 : decode b_Fl_init 31 = .ok (.return_, 1) := by decide +kernel
theorem d_Sr_init_0 : decode b_Sr_init 0 = .ok (.aload_n 0, 1) := by decide +kernel
theorem d_Sr_init_1 : decode b_Sr_init 1 = .ok (.invokespecial 3, 3) := by decide +kernel
theorem d_Sr_init_4 : decode b_Sr_init 4 = .ok (.aload_n 0, 1) := by decide +kernel
theorem d_Sr_init_5 : decode b_Sr_init 5 = .ok (.aload_n 1, 1) := by decide +kernel
theorem d_Sr_init_6 : decode b_Sr_init 6 = .ok (.putfield 9, 3) := by decide +kernel
theorem d_Sr_init_9 : decode b_Sr_init 9 = .ok (.aload_n 0, 1) := by decide +kernel
theorem d_Sr_init_10 : decode b_Sr_init 10 = .ok (.aload_n 2, 1) := by decide +kernel
theorem d_Sr_init_11 : decode b_Sr_init 11 = .ok (.putfield 15, 3) := by decide +kernel
theorem d_Sr_init_14 : decode b_Sr_init 14 = .ok (.aload_n 0, 1) := by decide +kernel
theorem d_Sr_init_15 : decode b_Sr_init 15 = .ok (.aload_n 3, 1) := by decide +kernel
theorem d_Sr_init_16 : decode b_Sr_init 16 = .ok (.putfield 19, 3) := by decide +kernel
theorem d_Sr_init_19 : decode b_Sr_init 19 = .ok (.aload_n 0, 1) := by decide +kernel
theorem d_Sr_init_20 : decode b_Sr_init 20 = .ok (.aload 4, 2) := by decide +kernel
theorem d_Sr_init_22 : decode b_Sr_init 22 = .ok (.putfield 23, 3) := by decide +kernel
theorem d_Sr_init_25 : decode b_Sr_init 25 = .ok (.aload_n 0, 1) := by decide +kernel
theorem d_Sr_init_26 : decode b_Sr_init 26 = .ok (.aload 5, 2) := by decide +kernel
theorem d_Sr_init_28 : decode b_Sr_init 28 = .ok (.putfield 27, 3) := by decide +kernel
theorem d_Sr_init_31 : decode b_Sr_init 31 = .ok (.aload_n 0, 1) := by decide +kernel
theorem d_Sr_init_32 : decode b_Sr_init 32 = .ok (.aload 6, 2) := by decide +kernel
theorem d_Sr_init_34 : decode b_Sr_init 34 = .ok (.putfield 31, 3) := by decide +kernel
theorem d_Sr_init_37 : decode b_Sr_init 37 = .ok (.return_, 1) := by decide +kernel
theorem d_On_init_0 : decode b_On_init 0 = .ok (.aload_n 0, 1) := by decide +kernel
theorem d_On_init_1 : decode b_On_init 1 = .ok (.invokespecial 3, 3) := by decide +kernel
theorem d_On_init_4 : decode b_On_init 4 = .ok (.aload_n 0, 1) := by decide +kernel
theorem d_On_init_5 : decode b_On_init 5 = .ok (.aload_n 1, 1) := by decide +kernel
theorem d_On_init_6 : decode b_On_init 6 = .ok (.putfield 9, 3) := by decide +kernel
theorem d_On_init_9 : decode b_On_init 9 = .ok (.aload_n 0, 1) := by decide +kernel
theorem d_On_init_10 : decode b_On_init 10 = .ok (.aload_n 2, 1) := by decide +kernel
theorem d_On_init_11 : decode b_On_init 11 = .ok (.putfield 15, 3) := by decide +kernel
theorem d_On_init_14 : decode b_On_init 14 = .ok (.aload_n 0, 1) := by decide +kernel
theorem d_On_init_15 : decode b_On_init 15 = .ok (.aload_n 3, 1) := by decide +kernel
theorem d_On_init_16 : decode b_On_init 16 = .ok (.putfield 19, 3) := by decide +kernel
theorem d_On_init_19 : decode b_On_init 19 = .ok (.aload_n 0, 1) := by decide +kernel
theorem d_On_init_20 : decode b_On_init 20 = .ok (.aload 4, 2) := by decide +kernel
theorem d_On_init_22 : decode b_On_init 22 = .ok (.putfield 23, 3) := by decide +kernel
theorem d_On_init_25 : decode b_On_init 25 = .ok (.aload_n 0, 1) := by decide +kernel
theorem d_On_init_26 : decode b_On_init 26 = .ok (.aload 5, 2) := by decide +kernel
theorem d_On_init_28 : decode b_On_init 28 = .ok (.putfield 27, 3) := by decide +kernel
theorem d_On_init_31 : decode b_On_init 31 = .ok (.return_, 1) := by decide +kernel
theorem d_Tw_init_0 : decode b_Tw_init 0 = .ok (.aload_n 0, 1) := by decide +kernel
theorem d_Tw_init_1 : decode b_Tw_init 1 = .ok (.invokespecial 3, 3) := by decide +kernel
theorem d_Tw_init_4 : decode b_Tw_init 4 = .ok (.aload_n 0, 1) := by decide +kernel
theorem d_Tw_init_5 : decode b_Tw_init 5 = .ok (.aload_n 1, 1) := by decide +kernel
theorem d_Tw_init_6 : decode b_Tw_init 6 = .ok (.putfield 9, 3) := by decide +kernel
theorem d_Tw_init_9 : decode b_Tw_init 9 = .ok (.aload_n 0, 1) := by decide +kernel
theorem d_Tw_init_10 : decode b_Tw_init 10 = .ok (.aload_n 2, 1) := by decide +kernel
theorem d_Tw_init_11 : decode b_Tw_init 11 = .ok (.putfield 15, 3) := by decide +kernel
theorem d_Tw_init_14 : decode b_Tw_init 14 = .ok (.aload_n 0, 1) := by decide +kernel
theorem d_Tw_init_15 : decode b_Tw_init 15 = .ok (.aload_n 3, 1) := by decide +kernel
theorem d_Tw_init_16 : decode b_Tw_init 16 = .ok (.putfield 19, 3) := by decide +kernel
theorem d_Tw_init_19 : decode b_Tw_init 19 = .ok (.aload_n 0, 1) := by decide +kernel
theorem d_Tw_init_20 : decode b_Tw_init 20 = .ok (.aload 4, 2) := by decide +kernel
theorem d_Tw_init_22 : decode b_Tw_init 22 = .ok (.putfield 23, 3) := by decide +kernel
theorem d_Tw_init_25 : decode b_Tw_init 25 = .ok (.return_, 1) := by decide +kernel
theorem d_Co_init_0 : decode b_Co_init 0 = .ok (.aload_n 0, 1) := by decide +kernel
theorem d_Co_init_1 : decode b_Co_init 1 = .ok (.invokespecial 3, 3) := by decide +kernel
theorem d_Co_init_4 : decode b_Co_init 4 = .ok (.aload_n 0, 1) := by decide +kernel
theorem d_Co_init_5 : decode b_Co_init 5 = .ok (.new 9, 3) := by decide +kernel
theorem d_Co_init_8 : decode b_Co_init 8 = .ok (.dup, 1) := by decide +kernel
theorem d_Co_init_9 : decode b_Co_init 9 = .ok (.invokespecial 11, 3) := by decide +kernel
theorem d_Co_init_12 : decode b_Co_init 12 = .ok (.putfield 12, 3) := by decide +kernel
theorem d_Co_init_15 : decode b_Co_init 15 = .ok (.aload_n 0, 1) := by decide +kernel
theorem d_Co_init_16 : decode b_Co_init 16 = .ok (.new 16, 3) := by decide +kernel
theorem d_Co_init_19 : decode b_Co_init 19 = .ok (.dup, 1) := by decide +kernel
theorem d_Co_init_20 : decode b_Co_init 20 = .ok (.aload_n 0, 1) := by decide +kernel
theorem d_Co_init_21 : decode b_Co_init 21 = .ok (.getfield 12, 3) := by decide +kernel
theorem d_Co_init_24 : decode b_Co_init 24 = .ok (.invokespecial 18, 3) := by decide +kernel
theorem d_Co_init_27 : decode b_Co_init 27 = .ok (.putfield 21, 3) := by decide +kernel
theorem d_Co_init_30 : decode b_Co_init 30 = .ok (.aload_n 0, 1) := by decide +kernel
theorem d_Co_init_31 : decode b_Co_init 31 = .ok (.new 25, 3) := by decide +kernel
theorem d_Co_init_34 : decode b_Co_init 34 = .ok (.dup, 1) := by decide +kernel
theorem d_Co_init_35 : decode b_Co_init 35 = .ok (.aload_n 0, 1) := by decide +kernel
theorem d_Co_init_36 : decode b_Co_init 36 = .ok (.getfield 12, 3) := by decide +kernel
theorem d_Co_init_39 : decode b_Co_init 39 = .ok (.aload_n 0, 1) := by decide +kernel
theorem d_Co_init_40 : decode b_Co_init 40 = .ok (.getfield 21, 3) := by decide +kernel
theorem d_Co_init_43 : decode b_Co_init 43 = .ok (.invokespecial 27, 3) := by decide +kernel
theorem d_Co_init_46 : decode b_Co_init 46 = .ok (.putfield 30, 3) := by decide +kernel
theorem d_Co_init_49 : decode b_Co_init 49 = .ok (.aload_n 0, 1) := by decide +kernel
theorem d_Co_init_50 : decode b_Co_init 50 = .ok (.new 34, 3) := by decide +kernel
theorem d_Co_init_53 : decode b_Co_init 53 = .ok (.dup, 1) := by decide +kernel
theorem d_Co_init_54 : decode b_Co_init 54 = .ok (.aload_n 0, 1) := by decide +kernel
theorem d_Co_init_55 : decode b_Co_init 55 = .ok (.getfield 12, 3) := by decide +kernel
theorem d_Co_init_58 : decode b_Co_init 58 = .ok (.aload_n 0, 1) := by decide +kernel
theorem d_Co_init_59 : decode b_Co_init 59 = .ok (.getfield 30, 3) := by decide +kernel
theorem d_Co_init_62 : decode b_Co_init 62 = .ok (.new 36, 3) := by decide +kernel
theorem d_Co_init_65 : decode b_Co_init 65 = .ok (.dup, 1) := by decide +kernel
theorem d_Co_init_66 : decode b_Co_init 66 = .ok (.aload_n 0, 1) := by decide +kernel
theorem d_Co_init_67 : decode b_Co_init 67 = .ok (.getfield 21, 3) := by decide +kernel
theorem d_Co_init_70 : decode b_Co_init 70 = .ok (.invokespecial 38, 3) := by decide +kernel
theorem d_Co_init_73 : decode b_Co_init 73 = .ok (.invokespecial 41, 3) := by decide +kernel
theorem d_Co_init_76 : decode b_Co_init 76 = .ok (.putfield 44, 3) := by decide +kernel
theorem d_Co_init_79 : decode b_Co_init 79 = .ok (.new 48, 3) := by decide +kernel
theorem d_Co_init_82 : decode b_Co_init 82 = .ok (.dup, 1) := by decide +kernel
theorem d_Co_init_83 : decode b_Co_init 83 = .ok (.aload_n 0, 1) := by decide +kernel
theorem d_Co_init_84 : decode b_Co_init 84 = .ok (.getfield 12, 3) := by decide +kernel
theorem d_Co_init_87 : decode b_Co_init 87 = .ok (.invokespecial 50, 3) := by decide +kernel
theorem d_Co_init_90 : decode b_Co_init 90 = .ok (.astore_n 1, 1) := by decide +kernel
theorem d_Co_init_91 : decode b_Co_init 91 = .ok (.new 51, 3) := by decide +kernel
theorem d_Co_init_94 : decode b_Co_init 94 = .ok (.dup, 1) := by decide +kernel
theorem d_Co_init_95 : decode b_Co_init 95 = .ok (.aload_n 1, 1) := by decide +kernel
theorem d_Co_init_96 : decode b_Co_init 96 = .ok (.invokespecial 53, 3) := by decide +kernel
theorem d_Co_init_99 : decode b_Co_init 99 = .ok (.astore_n 2, 1) := by decide +kernel
theorem d_Co_init_100 : decode b_Co_init 100 = .ok (.aload_n 0, 1) := by decide +kernel
theorem d_Co_init_101 : decode b_Co_init 101 = .ok (.new 56, 3) := by decide +kernel
theorem d_Co_init_104 : decode b_Co_init 104 = .ok (.dup, 1) := by decide +kernel
theorem d_Co_init_105 : decode b_Co_init 105 = .ok (.aload_n 0, 1) := by decide +kernel
theorem d_Co_init_106 : decode b_Co_init 106 = .ok (.getfield 12, 3) := by decide +kernel
theorem d_Co_init_109 : decode b_Co_init 109 = .ok (.aload_n 0, 1) := by decide +kernel
theorem d_Co_init_110 : decode b_Co_init 110 = .ok (.getfield 30, 3) := by decide +kernel
theorem d_Co_init_113 : decode b_Co_init 113 = .ok (.aload_n 0, 1) := by decide +kernel
theorem d_Co_init_114 : decode b_Co_init 114 = .ok (.getfield 44, 3) := by decide +kernel
theorem d_Co_init_117 : decode b_Co_init 117 = .ok (.aload_n 1, 1) := by decide +kernel
theorem d_Co_init_118 : decode b_Co_init 118 = .ok (.new 36, 3) := by decide +kernel
theorem d_Co_init_121 : decode b_Co_init 121 = .ok (.dup, 1) := by decide +kernel
theorem d_Co_init_122 : decode b_Co_init 122 = .ok (.aload_n 0, 1) := by decide +kernel
theorem d_Co_init_123 : decode b_Co_init 123 = .ok (.getfield 21, 3) := by decide +kernel
theorem d_Co_init_126 : decode b_Co_init 126 = .ok (.invokespecial 38, 3) := by decide +kernel
theorem d_Co_init_129 : decode b_Co_init 129 = .ok (.invokespecial 58, 3) := by decide +kernel
theorem d_Co_init_132 : decode b_Co_init 132 = .ok (.putfield 61, 3) := by decide +kernel
theorem d_Co_init_135 : decode b_Co_init 135 = .ok (.aload_n 0, 1) := by decide +kernel
theorem d_Co_init_136 : decode b_Co_init 136 = .ok (.new 65, 3) := by decide +kernel
theorem d_Co_init_139 : decode b_Co_init 139 = .ok (.dup, 1) := by decide +kernel
theorem d_Co_init_140 : decode b_Co_init 140 = .ok (.aload_n 0, 1) := by decide +kernel
theorem d_Co_init_141 : decode b_Co_init 141 = .ok (.getfield 12, 3) := by decide +kernel
theorem d_Co_init_144 : decode b_Co_init 144 = .ok (.aload_n 0, 1) := by decide +kernel
theorem d_Co_init_145 : decode b_Co_init 145 = .ok (.getfield 30, 3) := by decide +kernel
theorem d_Co_init_148 : decode b_Co_init 148 = .ok (.aload_n 0, 1) := by decide +kernel
theorem d_Co_init_149 : decode b_Co_init 149 = .ok (.getfield 44, 3) := by decide +kernel
theorem d_Co_init_152 : decode b_Co_init 152 = .ok (.aload_n 1, 1) := by decide +kernel
theorem d_Co_init_153 : decode b_Co_init 153 = .ok (.new 36, 3) := by decide +kernel
theorem d_Co_init_156 : decode b_Co_init 156 = .ok (.dup, 1) := by decide +kernel
theorem d_Co_init_157 : decode b_Co_init 157 = .ok (.aload_n 0, 1) := by decide +kernel
theorem d_Co_init_158 : decode b_Co_init 158 = .ok (.getfield 21, 3) := by decide +kernel
theorem d_Co_init_161 : decode b_Co_init 161 = .ok (.invokespecial 38, 3) := by decide +kernel
theorem d_Co_init_164 : decode b_Co_init 164 = .ok (.new 36, 3) := by decide +kernel
theorem d_Co_init_167 : decode b_Co_init 167 = .ok (.dup, 1) := by decide +kernel
theorem d_Co_init_168 : decode b_Co_init 168 = .ok (.aload_n 0, 1) := by decide +kernel
theorem d_Co_init_169 : decode b_Co_init 169 = .ok (.getfield 21, 3) := by decide +kernel
theorem d_Co_init_172 : decode b_Co_init 172 = .ok (.invokespecial 38, 3) := by decide +kernel
theorem d_Co_init_175 : decode b_Co_init 175 = .ok (.invokespecial 67, 3) := by decide +kernel
theorem d_Co_init_178 : decode b_Co_init 178 = .ok (.putfield 70, 3) := by decide +kernel
theorem d_Co_init_181 : decode b_Co_init 181 = .ok (.aload_n 0, 1) := by decide +kernel
theorem d_Co_init_182 : decode b_Co_init 182 = .ok (.new 74, 3) := by decide +kernel
theorem d_Co_init_185 : decode b_Co_init 185 = .ok (.dup, 1) := by decide +kernel
theorem d_Co_init_186 : decode b_Co_init 186 = .ok (.aload_n 0, 1) := by decide +kernel
theorem d_Co_init_187 : decode b_Co_init 187 = .ok (.getfield 12, 3) := by decide +kernel
theorem d_Co_init_190 : decode b_Co_init 190 = .ok (.aload_n 0, 1) := by decide +kernel
theorem d_Co_init_191 : decode b_Co_init 191 = .ok (.getfield 30, 3) := by decide +kernel
theorem d_Co_init_194 : decode b_Co_init 194 = .ok (.aload_n 0, 1) := by decide +kernel
theorem d_Co_init_195 : decode b_Co_init 195 = .ok (.getfield 44, 3) := by decide +kernel
theorem d_Co_init_198 : decode b_Co_init 198 = .ok (.aload_n 1, 1) := by decide +kernel
theorem d_Co_init_199 : decode b_Co_init 199 = .ok (.aload_n 2, 1) := by decide +kernel
theorem d_Co_init_200 : decode b_Co_init 200 = .ok (.invokespecial 76, 3) := by decide +kernel
theorem d_Co_init_203 : decode b_Co_init 203 = .ok (.putfield 79, 3) := by decide +kernel
theorem d_Co_init_206 : decode b_Co_init 206 = .ok (.aload_n 0, 1) := by decide +kernel
theorem d_Co_init_207 : decode b_Co_init 207 = .ok (.new 83, 3) := by decide +kernel
theorem d_Co_init_210 : decode b_Co_init 210 = .ok (.dup, 1) := by decide +kernel
theorem d_Co_init_211 : decode b_Co_init 211 = .ok (.aload_n 0, 1) := by decide +kernel
theorem d_Co_init_212 : decode b_Co_init 212 = .ok (.getfield 30, 3) := by decide +kernel
theorem d_Co_init_215 : decode b_Co_init 215 = .ok (.aload_n 0, 1) := by decide +kernel
theorem d_Co_init_216 : decode b_Co_init 216 = .ok (.getfield 44, 3) := by decide +kernel
theorem d_Co_init_219 : decode b_Co_init 219 = .ok (.aload_n 1, 1) := by decide +kernel
theorem d_Co_init_220 : decode b_Co_init 220 = .ok (.aload_n 2, 1) := by decide +kernel
theorem d_Co_init_221 : decode b_Co_init 221 = .ok (.invokespecial 85, 3) := by decide +kernel
theorem d_Co_init_224 : decode b_Co_init 224 = .ok (.putfield 88, 3) := by decide +kernel
theorem d_Co_init_227 : decode b_Co_init 227 = .ok (.return_, 1) := by decide +kernel
theorem d_Mo_init_0 : decode b_Mo_init 0 = .ok (.aload_n 0, 1) := by decide +kernel
theorem d_Mo_init_1 : decode b_Mo_init 1 = .ok (.invokespecial 1, 3) := by decide +kernel
theorem d_Mo_init_4 : decode b_Mo_init 4 = .ok (.aload_n 0, 1) := by decide +kernel
theorem d_Mo_init_5 : decode b_Mo_init 5 = .ok (.ldc 7, 2) := by decide +kernel
theorem d_Mo_init_7 : decode b_Mo_init 7 = .ok (.newarray .byte, 2) := by decide +kernel
theorem d_Mo_init_9 : decode b_Mo_init 9 = .ok (.putfield 8, 3) := by decide +kernel
theorem d_Mo_init_12 : decode b_Mo_init 12 = .ok (.aload_n 0, 1) := by decide +kernel
theorem d_Mo_init_13 : decode b_Mo_init 13 = .ok (.bipush 16, 2) := by decide +kernel
theorem d_Mo_init_15 : decode b_Mo_init 15 = .ok (.newarray .long, 2) := by decide +kernel
theorem d_Mo_init_17 : decode b_Mo_init 17 = .ok (.putfield 14, 3) := by decide +kernel
theorem d_Mo_init_20 : decode b_Mo_init 20 = .ok (.aload_n 0, 1) := by decide +kernel
theorem d_Mo_init_21 : decode b_Mo_init 21 = .ok (.bipush 16, 2) := by decide +kernel
theorem d_Mo_init_23 : decode b_Mo_init 23 = .ok (.newarray .long, 2) := by decide +kernel
theorem d_Mo_init_25 : decode b_Mo_init 25 = .ok (.putfield 18, 3) := by decide +kernel
theorem d_Mo_init_28 : decode b_Mo_init 28 = .ok (.aload_n 0, 1) := by decide +kernel
theorem d_Mo_init_29 : decode b_Mo_init 29 = .ok (.bipush 7, 2) := by decide +kernel
theorem d_Mo_init_31 : decode b_Mo_init 31 = .ok (.newarray .boolean, 2) := by decide +kernel
theorem d_Mo_init_33 : decode b_Mo_init 33 = .ok (.putfield 21, 3) := by decide +kernel
theorem d_Mo_init_36 : decode b_Mo_init 36 = .ok (.aload_n 0, 1) := by decide +kernel
theorem d_Mo_init_37 : decode b_Mo_init 37 = .ok (.bipush 7, 2) := by decide +kernel
theorem d_Mo_init_39 : decode b_Mo_init 39 = .ok (.newarray .boolean, 2) := by decide +kernel
theorem d_Mo_init_41 : decode b_Mo_init 41 = .ok (.putfield 25, 3) := by decide +kernel
theorem d_Mo_init_44 : decode b_Mo_init 44 = .ok (.aload_n 0, 1) := by decide +kernel
theorem d_Mo_init_45 : decode b_Mo_init 45 = .ok (.iconst (-1), 1) := by decide +kernel
theorem d_Mo_init_46 : decode b_Mo_init 46 = .ok (.putfield 28, 3) := by decide +kernel
theorem d_Mo_init_49 : decode b_Mo_init 49 = .ok (.aload_n 0, 1) := by decide +kernel
theorem d_Mo_init_50 : decode b_Mo_init 50 = .ok (.bipush 16, 2) := by decide +kernel
theorem d_Mo_init_52 : decode b_Mo_init 52 = .ok (.newarray .long, 2) := by decide +kernel
theorem d_Mo_init_54 : decode b_Mo_init 54 = .ok (.putfield 32, 3) := by decide +kernel
theorem d_Mo_init_57 : decode b_Mo_init 57 = .ok (.aload_n 0, 1) := by decide +kernel
theorem d_Mo_init_58 : decode b_Mo_init 58 = .ok (.bipush 16, 2) := by decide +kernel
theorem d_Mo_init_60 : decode b_Mo_init 60 = .ok (.newarray .int, 2) := by decide +kernel
theorem d_Mo_init_62 : decode b_Mo_init 62 = .ok (.putfield 35, 3) := by decide +kernel
theorem d_Mo_init_65 : decode b_Mo_init 65 = .ok (.aload_n 0, 1) := by decide +kernel
theorem d_Mo_init_66 : decode b_Mo_init 66 = .ok (.bipush 8, 2) := by decide +kernel
theorem d_Mo_init_68 : decode b_Mo_init 68 = .ok (.newarray .long, 2) := by decide +kernel
theorem d_Mo_init_70 : decode b_Mo_init 70 = .ok (.putfield 39, 3) := by decide +kernel
theorem d_Mo_init_73 : decode b_Mo_init 73 = .ok (.return_, 1) := by decide +kernel
