def mkK (w : Nat → Int64) (t : Int64) (u : Int32) : z_Sg := (fun k => if k = 1 then t else 0, fun k => if k = 2 then u else 0, fun a => if a = 1 then w else fun _ => 0, fun _ _ => 0)
theorem loc_mk (q : z_Sg) (pl : Int64) (how : Int32) : f_Pa_locate pl how q = f_Pa_locate pl how (mkK (z_gM q 1) (z_gL q 1) (z_gI q 2)) := by
  unfold f_Pa_locate f_Pa_isWrong k_Pa_isWrong_23 k_Pa_isWrong_24 k_Pa_locate_41 kb_Pa_locate_41 k_Pa_locate_86 k_Pa_locate_193 k_Pa_locate_162 k_Pa_locate_187 f_Pa_refused k_Pa_refused_23 k_Pa_refused_50 f_Pa_isForbidden k_Pa_isForbidden_16 k_Pa_isForbidden_36 k_Pa_isForbidden_48 k_Pa_isForbidden_52 k_Pa_isForbidden_53
  rfl
