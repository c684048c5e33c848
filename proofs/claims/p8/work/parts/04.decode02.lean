theorem d_De_placeOfE_82 : decode b_De_placeOfE 82 = .ok (.bipush 15, 2) := by decide +kernel
theorem d_De_placeOfE_84 : decode b_De_placeOfE 84 = .ok (.iand, 1) := by decide +kernel
theorem d_De_placeOfE_85 : decode b_De_placeOfE 85 = .ok (.laload, 1) := by decide +kernel
theorem d_De_placeOfE_86 : decode b_De_placeOfE 86 = .ok (.aload_n 0, 1) := by decide +kernel
theorem d_De_placeOfE_87 : decode b_De_placeOfE 87 = .ok (.getfield 122, 3) := by decide +kernel
theorem d_De_placeOfE_90 : decode b_De_placeOfE 90 = .ok (.lshl, 1) := by decide +kernel
theorem d_De_placeOfE_91 : decode b_De_placeOfE 91 = .ok (.ladd, 1) := by decide +kernel
theorem d_De_placeOfE_92 : decode b_De_placeOfE 92 = .ok (.lstore_n 3, 1) := by decide +kernel
theorem d_De_placeOfE_31 : decode b_De_placeOfE 31 = .ok (.lload_n 3, 1) := by decide +kernel
theorem d_De_placeOfE_32 : decode b_De_placeOfE 32 = .ok (.aload_n 0, 1) := by decide +kernel
theorem d_De_placeOfE_33 : decode b_De_placeOfE 33 = .ok (.getfield 9, 3) := by decide +kernel
theorem d_De_placeOfE_36 : decode b_De_placeOfE 36 = .ok (.getfield 158, 3) := by decide +kernel
theorem d_De_placeOfE_39 : decode b_De_placeOfE 39 = .ok (.aload_n 0, 1) := by decide +kernel
theorem d_De_placeOfE_40 : decode b_De_placeOfE 40 = .ok (.getfield 116, 3) := by decide +kernel
theorem d_De_placeOfE_43 : decode b_De_placeOfE 43 = .ok (.bipush 15, 2) := by decide +kernel
theorem d_De_placeOfE_45 : decode b_De_placeOfE 45 = .ok (.iand, 1) := by decide +kernel
theorem d_De_placeOfE_46 : decode b_De_placeOfE 46 = .ok (.laload, 1) := by decide +kernel
theorem d_De_placeOfE_47 : decode b_De_placeOfE 47 = .ok (.aload_n 0, 1) := by decide +kernel
theorem d_De_placeOfE_48 : decode b_De_placeOfE 48 = .ok (.getfield 116, 3) := by decide +kernel
theorem d_De_placeOfE_51 : decode b_De_placeOfE 51 = .ok (.iconst 4, 1) := by decide +kernel
theorem d_De_placeOfE_52 : decode b_De_placeOfE 52 = .ok (.if_icmp .ne 7, 3) := by decide +kernel
theorem d_De_placeOfE_59 : decode b_De_placeOfE 59 = .ok (.lconst 0, 1) := by decide +kernel
theorem d_De_placeOfE_60 : decode b_De_placeOfE 60 = .ok (.ladd, 1) := by decide +kernel
theorem d_De_placeOfE_61 : decode b_De_placeOfE 61 = .ok (.ladd, 1) := by decide +kernel
theorem d_De_placeOfE_62 : decode b_De_placeOfE 62 = .ok (.lstore_n 3, 1) := by decide +kernel
theorem d_De_placeOfE_55 : decode b_De_placeOfE 55 = .ok (.lload_n 1, 1) := by decide +kernel
theorem d_De_placeOfE_56 : decode b_De_placeOfE 56 = .ok (.goto 4, 3) := by decide +kernel
theorem d_De_placeOfE_14 : decode b_De_placeOfE 14 = .ok (.lload_n 3, 1) := by decide +kernel
theorem d_De_placeOfE_15 : decode b_De_placeOfE 15 = .ok (.aload_n 0, 1) := by decide +kernel
theorem d_De_placeOfE_16 : decode b_De_placeOfE 16 = .ok (.getfield 68, 3) := by decide +kernel
theorem d_De_placeOfE_19 : decode b_De_placeOfE 19 = .ok (.ladd, 1) := by decide +kernel
theorem d_De_placeOfE_20 : decode b_De_placeOfE 20 = .ok (.lstore_n 3, 1) := by decide +kernel
theorem d_De_placeOfE_21 : decode b_De_placeOfE 21 = .ok (.goto 42, 3) := by decide +kernel
theorem d_Fl_popMemory_29 : decode b_Fl_popMemory 29 = .ok (.invokevirtual 145, 3) := by decide +kernel
theorem d_Fl_popMemory_32 : decode b_Fl_popMemory 32 = .ok (.iconst 1, 1) := by decide +kernel
theorem d_Op_openAt_0 : decode b_Op_openAt 0 = .ok (.aload_n 0, 1) := by decide +kernel
theorem d_Op_openAt_1 : decode b_Op_openAt 1 = .ok (.getfield 19, 3) := by decide +kernel
theorem d_Op_openAt_4 : decode b_Op_openAt 4 = .ok (.lload_n 1, 1) := by decide +kernel
theorem d_Op_openAt_5 : decode b_Op_openAt 5 = .ok (.aload_n 0, 1) := by decide +kernel
theorem d_Op_openAt_6 : decode b_Op_openAt 6 = .ok (.getfield 27, 3) := by decide +kernel
theorem d_Op_openAt_9 : decode b_Op_openAt 9 = .ok (.iload_n 3, 1) := by decide +kernel
theorem d_Op_openAt_10 : decode b_Op_openAt 10 = .ok (.ifCond .eq 7, 3) := by decide +kernel
theorem d_Op_openAt_17 : decode b_Op_openAt 17 = .ok (.iconst 0, 1) := by decide +kernel
theorem d_Op_openAt_18 : decode b_Op_openAt 18 = .ok (.aload_n 0, 1) := by decide +kernel
theorem d_Op_openAt_19 : decode b_Op_openAt 19 = .ok (.getfield 15, 3) := by decide +kernel
theorem d_De_hasStackBase_0 : decode b_De_hasStackBase 0 = .ok (.aload_n 0, 1) := by decide +kernel
theorem d_De_hasStackBase_1 : decode b_De_hasStackBase 1 = .ok (.getfield 116, 3) := by decide +kernel
theorem d_De_hasStackBase_4 : decode b_De_hasStackBase 4 = .ok (.iconst 4, 1) := by decide +kernel
theorem d_De_hasStackBase_5 : decode b_De_hasStackBase 5 = .ok (.if_icmp .eq 11, 3) := by decide +kernel
theorem d_De_hasStackBase_16 : decode b_De_hasStackBase 16 = .ok (.iconst 1, 1) := by decide +kernel
theorem d_De_hasStackBase_17 : decode b_De_hasStackBase 17 = .ok (.goto 4, 3) := by decide +kernel
theorem d_De_hasStackBase_21 : decode b_De_hasStackBase 21 = .ok (.ireturn, 1) := by decide +kernel
theorem d_De_hasStackBase_8 : decode b_De_hasStackBase 8 = .ok (.aload_n 0, 1) := by decide +kernel
theorem d_De_hasStackBase_9 : decode b_De_hasStackBase 9 = .ok (.getfield 116, 3) := by decide +kernel
theorem d_De_hasStackBase_12 : decode b_De_hasStackBase 12 = .ok (.iconst 5, 1) := by decide +kernel
theorem d_De_hasStackBase_13 : decode b_De_hasStackBase 13 = .ok (.if_icmp .ne 7, 3) := by decide +kernel
theorem d_De_hasStackBase_20 : decode b_De_hasStackBase 20 = .ok (.iconst 0, 1) := by decide +kernel
theorem d_Op_openAt_22 : decode b_Op_openAt 22 = .ok (.invokevirtual 55, 3) := by decide +kernel
theorem d_Op_openAt_25 : decode b_Op_openAt 25 = .ok (.ifCond .ne 10, 3) := by decide +kernel
theorem d_Op_openAt_35 : decode b_Op_openAt 35 = .ok (.iconst 1, 1) := by decide +kernel
theorem d_Op_openAt_36 : decode b_Op_openAt 36 = .ok (.goto 4, 3) := by decide +kernel
theorem d_Op_openAt_40 : decode b_Op_openAt 40 = .ok (.invokevirtual 61, 3) := by decide +kernel
theorem d_Op_openAt_43 : decode b_Op_openAt 43 = .ok (.ireturn, 1) := by decide +kernel
theorem d_Op_openAt_28 : decode b_Op_openAt 28 = .ok (.aload_n 0, 1) := by decide +kernel
theorem d_Op_isOnStack_0 : decode b_Op_isOnStack 0 = .ok (.aload_n 0, 1) := by decide +kernel
theorem d_Op_isOnStack_1 : decode b_Op_isOnStack 1 = .ok (.getfield 15, 3) := by decide +kernel
theorem d_Op_isOnStack_4 : decode b_Op_isOnStack 4 = .ok (.getfield 36, 3) := by decide +kernel
theorem d_Op_isOnStack_7 : decode b_Op_isOnStack 7 = .ok (.sipush 143, 3) := by decide +kernel
theorem d_Op_isOnStack_10 : decode b_Op_isOnStack 10 = .ok (.if_icmp .eq 39, 3) := by decide +kernel
theorem d_Op_isOnStack_49 : decode b_Op_isOnStack 49 = .ok (.iconst 1, 1) := by decide +kernel
theorem d_Op_isOnStack_50 : decode b_Op_isOnStack 50 = .ok (.goto 4, 3) := by decide +kernel
theorem d_Op_isOnStack_54 : decode b_Op_isOnStack 54 = .ok (.ireturn, 1) := by decide +kernel
theorem d_Op_isOnStack_13 : decode b_Op_isOnStack 13 = .ok (.aload_n 0, 1) := by decide +kernel
theorem d_Op_isOnStack_14 : decode b_Op_isOnStack 14 = .ok (.getfield 15, 3) := by decide +kernel
theorem d_Op_isOnStack_17 : decode b_Op_isOnStack 17 = .ok (.getfield 36, 3) := by decide +kernel
theorem d_Op_isOnStack_20 : decode b_Op_isOnStack 20 = .ok (.sipush 255, 3) := by decide +kernel
theorem d_Op_isOnStack_23 : decode b_Op_isOnStack 23 = .ok (.if_icmp .ne 30, 3) := by decide +kernel
theorem d_Op_isOnStack_53 : decode b_Op_isOnStack 53 = .ok (.iconst 0, 1) := by decide +kernel
theorem d_Op_isOnStack_26 : decode b_Op_isOnStack 26 = .ok (.aload_n 0, 1) := by decide +kernel
theorem d_Op_isOnStack_27 : decode b_Op_isOnStack 27 = .ok (.getfield 15, 3) := by decide +kernel
theorem d_Op_isOnStack_30 : decode b_Op_isOnStack 30 = .ok (.getfield 79, 3) := by decide +kernel
theorem d_Op_isOnStack_33 : decode b_Op_isOnStack 33 = .ok (.iconst 2, 1) := by decide +kernel
theorem d_Op_isOnStack_34 : decode b_Op_isOnStack 34 = .ok (.if_icmp .eq 15, 3) := by decide +kernel
theorem d_Op_isOnStack_37 : decode b_Op_isOnStack 37 = .ok (.aload_n 0, 1) := by decide +kernel
theorem d_Op_isOnStack_38 : decode b_Op_isOnStack 38 = .ok (.getfield 15, 3) := by decide +kernel
theorem d_Op_isOnStack_41 : decode b_Op_isOnStack 41 = .ok (.getfield 79, 3) := by decide +kernel
theorem d_Op_isOnStack_44 : decode b_Op_isOnStack 44 = .ok (.bipush 6, 2) := by decide +kernel
theorem d_Op_isOnStack_46 : decode b_Op_isOnStack 46 = .ok (.if_icmp .ne 7, 3) := by decide +kernel
theorem d_Op_openAt_29 : decode b_Op_openAt 29 = .ok (.invokevirtual 58, 3) := by decide +kernel
theorem d_Op_openAt_32 : decode b_Op_openAt 32 = .ok (.ifCond .eq 7, 3) := by decide +kernel
theorem d_Op_openAt_39 : decode b_Op_openAt 39 = .ok (.iconst 0, 1) := by decide +kernel
theorem d_Op_openAt_13 : decode b_Op_openAt 13 = .ok (.iconst 1, 1) := by decide +kernel
theorem d_Op_openAt_14 : decode b_Op_openAt 14 = .ok (.goto 4, 3) := by decide +kernel
theorem d_Fl_popMemory_33 : decode b_Fl_popMemory 33 = .ok (.invokevirtual 149, 3) := by decide +kernel
theorem d_Fl_popMemory_36 : decode b_Fl_popMemory 36 = .ok (.istore_n 2, 1) := by decide +kernel
theorem d_Fl_execute_357 : decode b_Fl_execute 357 = .ok (.invokevirtual 81, 3) := by decide +kernel
theorem d_Fl_execute_360 : decode b_Fl_execute 360 = .ok (.ireturn, 1) := by decide +kernel
theorem d_Fl_execute_342 : decode b_Fl_execute 342 = .ok (.aload_n 0, 1) := by decide +kernel
theorem d_Fl_execute_343 : decode b_Fl_execute 343 = .ok (.aload_n 0, 1) := by decide +kernel
theorem d_Fl_execute_344 : decode b_Fl_execute 344 = .ok (.getfield 15, 3) := by decide +kernel
theorem d_Fl_execute_347 : decode b_Fl_execute 347 = .ok (.invokevirtual 78, 3) := by decide +kernel
theorem d_Fl_execute_350 : decode b_Fl_execute 350 = .ok (.invokevirtual 54, 3) := by decide +kernel
theorem d_Fl_execute_353 : decode b_Fl_execute 353 = .ok (.goto 7, 3) := by decide +kernel
theorem d_Fl_execute_361 : decode b_Fl_execute 361 = .ok (.aload_n 0, 1) := by decide +kernel
theorem d_Fl_execute_362 : decode b_Fl_execute 362 = .ok (.aload_n 0, 1) := by decide +kernel
theorem d_Fl_execute_363 : decode b_Fl_execute 363 = .ok (.getfield 9, 3) := by decide +kernel
theorem d_Fl_execute_366 : decode b_Fl_execute 366 = .ok (.getfield 84, 3) := by decide +kernel
theorem d_Fl_execute_369 : decode b_Fl_execute 369 = .ok (.iconst 2, 1) := by decide +kernel
theorem d_Fl_execute_370 : decode b_Fl_execute 370 = .ok (.ior, 1) := by decide +kernel
theorem d_Fl_execute_371 : decode b_Fl_execute 371 = .ok (.i2l, 1) := by decide +kernel
theorem d_Fl_execute_372 : decode b_Fl_execute 372 = .ok (.aload_n 0, 1) := by decide +kernel
theorem d_Fl_execute_373 : decode b_Fl_execute 373 = .ok (.getfield 15, 3) := by decide +kernel
theorem d_Fl_execute_376 : decode b_Fl_execute 376 = .ok (.invokevirtual 47, 3) := by decide +kernel
theorem d_Fl_execute_379 : decode b_Fl_execute 379 = .ok (.invokevirtual 50, 3) := by decide +kernel
theorem d_Fl_execute_382 : decode b_Fl_execute 382 = .ok (.ireturn, 1) := by decide +kernel
theorem d_Fl_execute_383 : decode b_Fl_execute 383 = .ok (.aload_n 0, 1) := by decide +kernel
theorem d_Fl_popFlags_0 : decode b_Fl_popFlags 0 = .ok (.aload_n 0, 1) := by decide +kernel
theorem d_Fl_popFlags_1 : decode b_Fl_popFlags 1 = .ok (.getfield 15, 3) := by decide +kernel
theorem d_Fl_popFlags_4 : decode b_Fl_popFlags 4 = .ok (.invokevirtual 47, 3) := by decide +kernel
theorem d_Fl_popFlags_7 : decode b_Fl_popFlags 7 = .ok (.istore_n 1, 1) := by decide +kernel
theorem d_Fl_popFlags_8 : decode b_Fl_popFlags 8 = .ok (.aload_n 0, 1) := by decide +kernel
theorem d_Fl_popFlags_9 : decode b_Fl_popFlags 9 = .ok (.iload_n 1, 1) := by decide +kernel
theorem d_Fl_popFlags_10 : decode b_Fl_popFlags 10 = .ok (.invokevirtual 137, 3) := by decide +kernel
theorem d_Fl_popFlags_13 : decode b_Fl_popFlags 13 = .ok (.istore_n 2, 1) := by decide +kernel
theorem d_Fl_popFlags_14 : decode b_Fl_popFlags 14 = .ok (.iload_n 2, 1) := by decide +kernel
theorem d_Fl_popFlags_15 : decode b_Fl_popFlags 15 = .ok (.iconst (-1), 1) := by decide +kernel
theorem d_Fl_popFlags_16 : decode b_Fl_popFlags 16 = .ok (.if_icmp .ne 36, 3) := by decide +kernel
theorem d_Fl_popFlags_52 : decode b_Fl_popFlags 52 = .ok (.iload_n 2, 1) := by decide +kernel
theorem d_Fl_popFlags_53 : decode b_Fl_popFlags 53 = .ok (.ireturn, 1) := by decide +kernel
theorem d_Fl_popFlags_19 : decode b_Fl_popFlags 19 = .ok (.aload_n 0, 1) := by decide +kernel
theorem d_Fl_popFlags_20 : decode b_Fl_popFlags 20 = .ok (.getfield 9, 3) := by decide +kernel
theorem d_Fl_popFlags_23 : decode b_Fl_popFlags 23 = .ok (.aload_n 0, 1) := by decide +kernel
theorem d_Fl_popFlags_24 : decode b_Fl_popFlags 24 = .ok (.getfield 27, 3) := by decide +kernel
theorem d_Fl_popFlags_27 : decode b_Fl_popFlags 27 = .ok (.invokevirtual 140, 3) := by decide +kernel
theorem d_Fl_popFlags_30 : decode b_Fl_popFlags 30 = .ok (.l2i, 1) := by decide +kernel
theorem d_Fl_popFlags_31 : decode b_Fl_popFlags 31 = .ok (.sipush 3285, 3) := by decide +kernel
theorem d_Fl_popFlags_34 : decode b_Fl_popFlags 34 = .ok (.iand, 1) := by decide +kernel
theorem d_Fl_popFlags_35 : decode b_Fl_popFlags 35 = .ok (.putfield 84, 3) := by decide +kernel
theorem d_Fl_popFlags_38 : decode b_Fl_popFlags 38 = .ok (.aload_n 0, 1) := by decide +kernel
theorem d_Fl_popFlags_39 : decode b_Fl_popFlags 39 = .ok (.getfield 9, 3) := by decide +kernel
theorem d_Fl_popFlags_42 : decode b_Fl_popFlags 42 = .ok (.getfield 101, 3) := by decide +kernel
theorem d_Fl_popFlags_45 : decode b_Fl_popFlags 45 = .ok (.iconst 4, 1) := by decide +kernel
theorem d_Fl_popFlags_46 : decode b_Fl_popFlags 46 = .ok (.dup2, 1) := by decide +kernel
theorem d_Fl_popFlags_47 : decode b_Fl_popFlags 47 = .ok (.laload, 1) := by decide +kernel
theorem d_Fl_popFlags_48 : decode b_Fl_popFlags 48 = .ok (.iload_n 1, 1) := by decide +kernel
theorem d_Fl_popFlags_49 : decode b_Fl_popFlags 49 = .ok (.i2l, 1) := by decide +kernel
theorem d_Fl_popFlags_50 : decode b_Fl_popFlags 50 = .ok (.ladd, 1) := by decide +kernel
theorem d_Fl_popFlags_51 : decode b_Fl_popFlags 51 = .ok (.lastore, 1) := by decide +kernel
theorem d_Fl_execute_384 : decode b_Fl_execute 384 = .ok (.invokevirtual 89, 3) := by decide +kernel
theorem d_Fl_execute_387 : decode b_Fl_execute 387 = .ok (.ireturn, 1) := by decide +kernel
theorem d_Fl_execute_388 : decode b_Fl_execute 388 = .ok (.aload_n 0, 1) := by decide +kernel
theorem d_Fl_comeBack_0 : decode b_Fl_comeBack 0 = .ok (.aload_n 0, 1) := by decide +kernel
theorem d_Fl_comeBack_1 : decode b_Fl_comeBack 1 = .ok (.bipush 8, 2) := by decide +kernel
theorem d_Fl_comeBack_3 : decode b_Fl_comeBack 3 = .ok (.invokevirtual 137, 3) := by decide +kernel
theorem d_Fl_comeBack_6 : decode b_Fl_comeBack 6 = .ok (.istore_n 1, 1) := by decide +kernel
theorem d_Fl_comeBack_7 : decode b_Fl_comeBack 7 = .ok (.iload_n 1, 1) := by decide +kernel
theorem d_Fl_comeBack_8 : decode b_Fl_comeBack 8 = .ok (.iconst (-1), 1) := by decide +kernel
theorem d_Fl_comeBack_9 : decode b_Fl_comeBack 9 = .ok (.if_icmp .ne 15, 3) := by decide +kernel
theorem d_Fl_comeBack_24 : decode b_Fl_comeBack 24 = .ok (.iload_n 1, 1) := by decide +kernel
theorem d_Fl_comeBack_25 : decode b_Fl_comeBack 25 = .ok (.iconst (-1), 1) := by decide +kernel
theorem d_Fl_comeBack_26 : decode b_Fl_comeBack 26 = .ok (.if_icmp .ne 30, 3) := by decide +kernel
theorem d_Fl_comeBack_56 : decode b_Fl_comeBack 56 = .ok (.iload_n 1, 1) := by decide +kernel
theorem d_Fl_comeBack_57 : decode b_Fl_comeBack 57 = .ok (.ireturn, 1) := by decide +kernel
theorem d_Fl_comeBack_29 : decode b_Fl_comeBack 29 = .ok (.aload_n 0, 1) := by decide +kernel
theorem d_Fl_comeBack_30 : decode b_Fl_comeBack 30 = .ok (.getfield 9, 3) := by decide +kernel
theorem d_Fl_comeBack_33 : decode b_Fl_comeBack 33 = .ok (.getfield 101, 3) := by decide +kernel
theorem d_Fl_comeBack_36 : decode b_Fl_comeBack 36 = .ok (.iconst 4, 1) := by decide +kernel
theorem d_Fl_comeBack_37 : decode b_Fl_comeBack 37 = .ok (.dup2, 1) := by decide +kernel
theorem d_Fl_comeBack_38 : decode b_Fl_comeBack 38 = .ok (.laload, 1) := by decide +kernel
theorem d_Fl_comeBack_39 : decode b_Fl_comeBack 39 = .ok (.ldc2_w 154, 3) := by decide +kernel
theorem d_Fl_comeBack_42 : decode b_Fl_comeBack 42 = .ok (.aload_n 0, 1) := by decide +kernel
theorem d_Fl_comeBack_43 : decode b_Fl_comeBack 43 = .ok (.getfield 15, 3) := by decide +kernel
theorem d_Fl_comeBack_46 : decode b_Fl_comeBack 46 = .ok (.getfield 68, 3) := by decide +kernel
theorem d_Fl_comeBack_49 : decode b_Fl_comeBack 49 = .ok (.ldc2_w 156, 3) := by decide +kernel
theorem d_Fl_comeBack_52 : decode b_Fl_comeBack 52 = .ok (.land, 1) := by decide +kernel
theorem d_Fl_comeBack_53 : decode b_Fl_comeBack 53 = .ok (.ladd, 1) := by decide +kernel
theorem d_Fl_comeBack_54 : decode b_Fl_comeBack 54 = .ok (.ladd, 1) := by decide +kernel
theorem d_Fl_comeBack_55 : decode b_Fl_comeBack 55 = .ok (.lastore, 1) := by decide +kernel
theorem d_Fl_comeBack_12 : decode b_Fl_comeBack 12 = .ok (.aload_n 0, 1) := by decide +kernel
theorem d_Fl_comeBack_13 : decode b_Fl_comeBack 13 = .ok (.aload_n 0, 1) := by decide +kernel
theorem d_Fl_comeBack_14 : decode b_Fl_comeBack 14 = .ok (.getfield 27, 3) := by decide +kernel
theorem d_Fl_comeBack_17 : decode b_Fl_comeBack 17 = .ok (.invokevirtual 140, 3) := by decide +kernel
theorem d_Fl_comeBack_20 : decode b_Fl_comeBack 20 = .ok (.invokevirtual 71, 3) := by decide +kernel
theorem d_Fl_comeBack_23 : decode b_Fl_comeBack 23 = .ok (.istore_n 1, 1) := by decide +kernel
theorem d_Fl_execute_389 : decode b_Fl_execute 389 = .ok (.invokevirtual 92, 3) := by decide +kernel
theorem d_Fl_execute_392 : decode b_Fl_execute 392 = .ok (.ireturn, 1) := by decide +kernel
theorem d_Fl_execute_393 : decode b_Fl_execute 393 = .ok (.aload_n 0, 1) := by decide +kernel
theorem d_Fl_leave_0 : decode b_Fl_leave 0 = .ok (.aload_n 0, 1) := by decide +kernel
theorem d_Fl_leave_1 : decode b_Fl_leave 1 = .ok (.getfield 9, 3) := by decide +kernel
theorem d_Fl_leave_4 : decode b_Fl_leave 4 = .ok (.getfield 101, 3) := by decide +kernel
theorem d_Fl_leave_7 : decode b_Fl_leave 7 = .ok (.iconst 5, 1) := by decide +kernel
theorem d_Fl_leave_8 : decode b_Fl_leave 8 = .ok (.laload, 1) := by decide +kernel
theorem d_Fl_leave_9 : decode b_Fl_leave 9 = .ok (.lstore_n 1, 1) := by decide +kernel
theorem d_Fl_leave_10 : decode b_Fl_leave 10 = .ok (.aload_n 0, 1) := by decide +kernel
theorem d_Fl_leave_11 : decode b_Fl_leave 11 = .ok (.getfield 27, 3) := by decide +kernel
theorem d_Fl_leave_14 : decode b_Fl_leave 14 = .ok (.lload_n 1, 1) := by decide +kernel
theorem d_Fl_leave_15 : decode b_Fl_leave 15 = .ok (.bipush 8, 2) := by decide +kernel
theorem d_Fl_leave_17 : decode b_Fl_leave 17 = .ok (.iconst 0, 1) := by decide +kernel
theorem d_Fl_leave_18 : decode b_Fl_leave 18 = .ok (.iconst 1, 1) := by decide +kernel
theorem d_Fl_leave_19 : decode b_Fl_leave 19 = .ok (.invokevirtual 127, 3) := by decide +kernel
theorem d_Fl_leave_22 : decode b_Fl_leave 22 = .ok (.istore_n 3, 1) := by decide +kernel
theorem d_Fl_leave_23 : decode b_Fl_leave 23 = .ok (.iload_n 3, 1) := by decide +kernel
theorem d_Fl_leave_24 : decode b_Fl_leave 24 = .ok (.iconst (-1), 1) := by decide +kernel
theorem d_Fl_leave_25 : decode b_Fl_leave 25 = .ok (.if_icmp .ne 33, 3) := by decide +kernel
theorem d_Fl_leave_58 : decode b_Fl_leave 58 = .ok (.iload_n 3, 1) := by decide +kernel
theorem d_Fl_leave_59 : decode b_Fl_leave 59 = .ok (.ireturn, 1) := by decide +kernel
theorem d_Fl_leave_28 : decode b_Fl_leave 28 = .ok (.aload_n 0, 1) := by decide +kernel
theorem d_Fl_leave_29 : decode b_Fl_leave 29 = .ok (.getfield 9, 3) := by decide +kernel
theorem d_Fl_leave_32 : decode b_Fl_leave 32 = .ok (.getfield 101, 3) := by decide +kernel
theorem d_Fl_leave_35 : decode b_Fl_leave 35 = .ok (.iconst 5, 1) := by decide +kernel
theorem d_Fl_leave_36 : decode b_Fl_leave 36 = .ok (.aload_n 0, 1) := by decide +kernel
theorem d_Fl_leave_37 : decode b_Fl_leave 37 = .ok (.getfield 27, 3) := by decide +kernel
theorem d_Fl_leave_40 : decode b_Fl_leave 40 = .ok (.invokevirtual 140, 3) := by decide +kernel
theorem d_Fl_leave_43 : decode b_Fl_leave 43 = .ok (.lastore, 1) := by decide +kernel
theorem d_Fl_leave_44 : decode b_Fl_leave 44 = .ok (.aload_n 0, 1) := by decide +kernel
theorem d_Fl_leave_45 : decode b_Fl_leave 45 = .ok (.getfield 9, 3) := by decide +kernel
theorem d_Fl_leave_48 : decode b_Fl_leave 48 = .ok (.getfield 101, 3) := by decide +kernel
theorem d_Fl_leave_51 : decode b_Fl_leave 51 = .ok (.iconst 4, 1) := by decide +kernel
theorem d_Fl_leave_52 : decode b_Fl_leave 52 = .ok (.lload_n 1, 1) := by decide +kernel
theorem d_Fl_leave_53 : decode b_Fl_leave 53 = .ok (.ldc2_w 154, 3) := by decide +kernel
theorem d_Fl_leave_56 : decode b_Fl_leave 56 = .ok (.ladd, 1) := by decide +kernel
theorem d_Fl_leave_57 : decode b_Fl_leave 57 = .ok (.lastore, 1) := by decide +kernel
theorem d_Fl_execute_394 : decode b_Fl_execute 394 = .ok (.invokevirtual 95, 3) := by decide +kernel
theorem d_Fl_execute_397 : decode b_Fl_execute 397 = .ok (.ireturn, 1) := by decide +kernel
theorem d_Fl_execute_398 : decode b_Fl_execute 398 = .ok (.aload_n 0, 1) := by decide +kernel
theorem d_Fl_countDown_0 : decode b_Fl_countDown 0 = .ok (.aload_n 0, 1) := by decide +kernel
theorem d_Fl_countDown_1 : decode b_Fl_countDown 1 = .ok (.getfield 9, 3) := by decide +kernel
theorem d_Fl_countDown_4 : decode b_Fl_countDown 4 = .ok (.getfield 101, 3) := by decide +kernel
theorem d_Fl_countDown_7 : decode b_Fl_countDown 7 = .ok (.iconst 1, 1) := by decide +kernel
theorem d_Fl_countDown_8 : decode b_Fl_countDown 8 = .ok (.laload, 1) := by decide +kernel
theorem d_Fl_countDown_9 : decode b_Fl_countDown 9 = .ok (.lconst 1, 1) := by decide +kernel
theorem d_Fl_countDown_10 : decode b_Fl_countDown 10 = .ok (.lsub, 1) := by decide +kernel
theorem d_Fl_countDown_11 : decode b_Fl_countDown 11 = .ok (.lstore_n 1, 1) := by decide +kernel
theorem d_Fl_countDown_12 : decode b_Fl_countDown 12 = .ok (.aload_n 0, 1) := by decide +kernel
theorem d_Fl_countDown_13 : decode b_Fl_countDown 13 = .ok (.getfield 9, 3) := by decide +kernel
theorem d_Fl_countDown_16 : decode b_Fl_countDown 16 = .ok (.getfield 84, 3) := by decide +kernel
theorem d_Fl_countDown_19 : decode b_Fl_countDown 19 = .ok (.bipush 64, 2) := by decide +kernel
theorem d_Fl_countDown_21 : decode b_Fl_countDown 21 = .ok (.iand, 1) := by decide +kernel
theorem d_Fl_countDown_22 : decode b_Fl_countDown 22 = .ok (.ifCond .eq 7, 3) := by decide +kernel
theorem d_Fl_countDown_29 : decode b_Fl_countDown 29 = .ok (.iconst 0, 1) := by decide +kernel
theorem d_Fl_countDown_30 : decode b_Fl_countDown 30 = .ok (.istore_n 3, 1) := by decide +kernel
theorem d_Fl_countDown_31 : decode b_Fl_countDown 31 = .ok (.lload_n 1, 1) := by decide +kernel
theorem d_Fl_countDown_32 : decode b_Fl_countDown 32 = .ok (.lconst 0, 1) := by decide +kernel
theorem d_Fl_countDown_33 : decode b_Fl_countDown 33 = .ok (.lcmp, 1) := by decide +kernel
theorem d_Fl_countDown_34 : decode b_Fl_countDown 34 = .ok (.ifCond .eq 42, 3) := by decide +kernel
theorem d_Fl_countDown_76 : decode b_Fl_countDown 76 = .ok (.iconst 0, 1) := by decide +kernel
theorem d_Fl_countDown_77 : decode b_Fl_countDown 77 = .ok (.istore 4, 2) := by decide +kernel
theorem d_Fl_countDown_79 : decode b_Fl_countDown 79 = .ok (.iload 4, 2) := by decide +kernel
theorem d_Fl_countDown_81 : decode b_Fl_countDown 81 = .ok (.ifCond .eq 25, 3) := by decide +kernel
theorem d_Fl_countDown_106 : decode b_Fl_countDown 106 = .ok (.iconst (-1), 1) := by decide +kernel
theorem d_Fl_countDown_107 : decode b_Fl_countDown 107 = .ok (.istore 5, 2) := by decide +kernel
theorem d_Fl_countDown_109 : decode b_Fl_countDown 109 = .ok (.iload 5, 2) := by decide +kernel
theorem d_Fl_countDown_111 : decode b_Fl_countDown 111 = .ok (.iconst (-1), 1) := by decide +kernel
theorem d_Fl_countDown_112 : decode b_Fl_countDown 112 = .ok (.if_icmp .ne 13, 3) := by decide +kernel
theorem d_Fl_countDown_125 : decode b_Fl_countDown 125 = .ok (.iload 5, 2) := by decide +kernel
theorem d_Fl_countDown_127 : decode b_Fl_countDown 127 = .ok (.ireturn, 1) := by decide +kernel
theorem d_Fl_countDown_115 : decode b_Fl_countDown 115 = .ok (.aload_n 0, 1) := by decide +kernel
theorem d_Fl_countDown_116 : decode b_Fl_countDown 116 = .ok (.getfield 9, 3) := by decide +kernel
theorem d_Fl_countDown_119 : decode b_Fl_countDown 119 = .ok (.getfield 101, 3) := by decide +kernel
theorem d_Fl_countDown_122 : decode b_Fl_countDown 122 = .ok (.iconst 1, 1) := by decide +kernel
theorem d_Fl_countDown_123 : decode b_Fl_countDown 123 = .ok (.lload_n 1, 1) := by decide +kernel
theorem d_Fl_countDown_124 : decode b_Fl_countDown 124 = .ok (.lastore, 1) := by decide +kernel
theorem d_Fl_countDown_84 : decode b_Fl_countDown 84 = .ok (.aload_n 0, 1) := by decide +kernel
theorem d_Fl_countDown_85 : decode b_Fl_countDown 85 = .ok (.aload_n 0, 1) := by decide +kernel
theorem d_Fl_countDown_86 : decode b_Fl_countDown 86 = .ok (.getfield 15, 3) := by decide +kernel
theorem d_Fl_countDown_89 : decode b_Fl_countDown 89 = .ok (.getfield 64, 3) := by decide +kernel
theorem d_Fl_countDown_92 : decode b_Fl_countDown 92 = .ok (.aload_n 0, 1) := by decide +kernel
theorem d_Fl_countDown_93 : decode b_Fl_countDown 93 = .ok (.getfield 15, 3) := by decide +kernel
theorem d_Fl_countDown_96 : decode b_Fl_countDown 96 = .ok (.getfield 68, 3) := by decide +kernel
theorem d_Fl_countDown_99 : decode b_Fl_countDown 99 = .ok (.ladd, 1) := by decide +kernel
theorem d_Fl_countDown_100 : decode b_Fl_countDown 100 = .ok (.invokevirtual 71, 3) := by decide +kernel
theorem d_Fl_countDown_103 : decode b_Fl_countDown 103 = .ok (.goto 4, 3) := by decide +kernel
theorem d_Fl_countDown_37 : decode b_Fl_countDown 37 = .ok (.aload_n 0, 1) := by decide +kernel
theorem d_Fl_countDown_38 : decode b_Fl_countDown 38 = .ok (.getfield 15, 3) := by decide +kernel
theorem d_Fl_countDown_41 : decode b_Fl_countDown 41 = .ok (.getfield 31, 3) := by decide +kernel
theorem d_Fl_countDown_44 : decode b_Fl_countDown 44 = .ok (.sipush 226, 3) := by decide +kernel
theorem d_Fl_countDown_47 : decode b_Fl_countDown 47 = .ok (.if_icmp .eq 25, 3) := by decide +kernel
theorem d_Fl_countDown_72 : decode b_Fl_countDown 72 = .ok (.iconst 1, 1) := by decide +kernel
theorem d_Fl_countDown_73 : decode b_Fl_countDown 73 = .ok (.goto 4, 3) := by decide +kernel
theorem d_Fl_countDown_50 : decode b_Fl_countDown 50 = .ok (.iload_n 3, 1) := by decide +kernel
theorem d_Fl_countDown_51 : decode b_Fl_countDown 51 = .ok (.aload_n 0, 1) := by decide +kernel
theorem d_Fl_countDown_52 : decode b_Fl_countDown 52 = .ok (.getfield 15, 3) := by decide +kernel
theorem d_Fl_countDown_55 : decode b_Fl_countDown 55 = .ok (.getfield 31, 3) := by decide +kernel
theorem d_Fl_countDown_58 : decode b_Fl_countDown 58 = .ok (.sipush 225, 3) := by decide +kernel
theorem d_Fl_countDown_61 : decode b_Fl_countDown 61 = .ok (.if_icmp .ne 7, 3) := by decide +kernel
theorem d_Fl_countDown_68 : decode b_Fl_countDown 68 = .ok (.iconst 0, 1) := by decide +kernel
theorem d_Fl_countDown_69 : decode b_Fl_countDown 69 = .ok (.if_icmp .ne 7, 3) := by decide +kernel
theorem d_Fl_countDown_64 : decode b_Fl_countDown 64 = .ok (.iconst 1, 1) := by decide +kernel
theorem d_Fl_countDown_65 : decode b_Fl_countDown 65 = .ok (.goto 4, 3) := by decide +kernel
theorem d_Fl_countDown_25 : decode b_Fl_countDown 25 = .ok (.iconst 1, 1) := by decide +kernel
theorem d_Fl_countDown_26 : decode b_Fl_countDown 26 = .ok (.goto 4, 3) := by decide +kernel
theorem d_Fl_execute_399 : decode b_Fl_execute 399 = .ok (.invokevirtual 98, 3) := by decide +kernel
theorem d_Fl_execute_402 : decode b_Fl_execute 402 = .ok (.ireturn, 1) := by decide +kernel
theorem d_Fl_execute_403 : decode b_Fl_execute 403 = .ok (.aload_n 0, 1) := by decide +kernel
theorem d_Fl_execute_404 : decode b_Fl_execute 404 = .ok (.getfield 9, 3) := by decide +kernel
theorem d_Fl_execute_407 : decode b_Fl_execute 407 = .ok (.getfield 101, 3) := by decide +kernel
theorem d_Fl_execute_410 : decode b_Fl_execute 410 = .ok (.iconst 1, 1) := by decide +kernel
theorem d_Fl_execute_411 : decode b_Fl_execute 411 = .ok (.laload, 1) := by decide +kernel
theorem d_Fl_execute_412 : decode b_Fl_execute 412 = .ok (.lconst 0, 1) := by decide +kernel
theorem d_Fl_execute_413 : decode b_Fl_execute 413 = .ok (.lcmp, 1) := by decide +kernel
theorem d_Fl_execute_414 : decode b_Fl_execute 414 = .ok (.ifCond .ne 25, 3) := by decide +kernel
theorem d_Fl_execute_439 : decode b_Fl_execute 439 = .ok (.iconst (-1), 1) := by decide +kernel
theorem d_Fl_execute_440 : decode b_Fl_execute 440 = .ok (.ireturn, 1) := by decide +kernel
theorem d_Fl_execute_417 : decode b_Fl_execute 417 = .ok (.aload_n 0, 1) := by decide +kernel
theorem d_Fl_execute_418 : decode b_Fl_execute 418 = .ok (.aload_n 0, 1) := by decide +kernel
theorem d_Fl_execute_419 : decode b_Fl_execute 419 = .ok (.getfield 15, 3) := by decide +kernel
theorem d_Fl_execute_422 : decode b_Fl_execute 422 = .ok (.getfield 64, 3) := by decide +kernel
theorem d_Fl_execute_425 : decode b_Fl_execute 425 = .ok (.aload_n 0, 1) := by decide +kernel
theorem d_Fl_execute_426 : decode b_Fl_execute 426 = .ok (.getfield 15, 3) := by decide +kernel
theorem d_Fl_execute_429 : decode b_Fl_execute 429 = .ok (.getfield 68, 3) := by decide +kernel
theorem d_Fl_execute_432 : decode b_Fl_execute 432 = .ok (.ladd, 1) := by decide +kernel
theorem d_Fl_execute_433 : decode b_Fl_execute 433 = .ok (.invokevirtual 71, 3) := by decide +kernel
theorem d_Fl_execute_436 : decode b_Fl_execute 436 = .ok (.goto 4, 3) := by decide +kernel
theorem d_Fl_execute_441 : decode b_Fl_execute 441 = .ok (.aload_n 0, 1) := by decide +kernel
theorem d_Fl_execute_442 : decode b_Fl_execute 442 = .ok (.aload_n 0, 1) := by decide +kernel
theorem d_Fl_execute_443 : decode b_Fl_execute 443 = .ok (.getfield 15, 3) := by decide +kernel
theorem d_Fl_execute_446 : decode b_Fl_execute 446 = .ok (.getfield 64, 3) := by decide +kernel
theorem d_Fl_execute_449 : decode b_Fl_execute 449 = .ok (.aload_n 0, 1) := by decide +kernel
theorem d_Fl_execute_450 : decode b_Fl_execute 450 = .ok (.getfield 15, 3) := by decide +kernel
theorem d_Fl_execute_453 : decode b_Fl_execute 453 = .ok (.getfield 68, 3) := by decide +kernel
theorem d_Fl_execute_456 : decode b_Fl_execute 456 = .ok (.ladd, 1) := by decide +kernel
theorem d_Fl_call_0 : decode b_Fl_call 0 = .ok (.lload_n 1, 1) := by decide +kernel
theorem d_Fl_call_1 : decode b_Fl_call 1 = .ok (.invokestatic 121, 3) := by decide +kernel
theorem d_Fl_call_4 : decode b_Fl_call 4 = .ok (.ifCond .eq 6, 3) := by decide +kernel
theorem d_Fl_call_10 : decode b_Fl_call 10 = .ok (.aload_n 0, 1) := by decide +kernel
theorem d_Fl_call_11 : decode b_Fl_call 11 = .ok (.aload_n 0, 1) := by decide +kernel
theorem d_Fl_call_12 : decode b_Fl_call 12 = .ok (.getfield 15, 3) := by decide +kernel
theorem d_Fl_call_15 : decode b_Fl_call 15 = .ok (.getfield 64, 3) := by decide +kernel
theorem d_Fl_call_18 : decode b_Fl_call 18 = .ok (.bipush 8, 2) := by decide +kernel
theorem d_Fl_call_20 : decode b_Fl_call 20 = .ok (.invokevirtual 50, 3) := by decide +kernel
theorem d_Fl_call_23 : decode b_Fl_call 23 = .ok (.istore_n 3, 1) := by decide +kernel
theorem d_Fl_call_24 : decode b_Fl_call 24 = .ok (.iload_n 3, 1) := by decide +kernel
theorem d_Fl_call_25 : decode b_Fl_call 25 = .ok (.iconst (-1), 1) := by decide +kernel
theorem d_Fl_call_26 : decode b_Fl_call 26 = .ok (.if_icmp .ne 11, 3) := by decide +kernel
theorem d_Fl_call_37 : decode b_Fl_call 37 = .ok (.iload_n 3, 1) := by decide +kernel
theorem d_Fl_call_38 : decode b_Fl_call 38 = .ok (.ireturn, 1) := by decide +kernel
theorem d_Fl_call_29 : decode b_Fl_call 29 = .ok (.aload_n 0, 1) := by decide +kernel
theorem d_Fl_call_30 : decode b_Fl_call 30 = .ok (.getfield 15, 3) := by decide +kernel
theorem d_Fl_call_33 : decode b_Fl_call 33 = .ok (.lload_n 1, 1) := by decide +kernel
theorem d_Fl_call_34 : decode b_Fl_call 34 = .ok (.putfield 64, 3) := by decide +kernel
theorem d_Fl_call_7 : decode b_Fl_call 7 = .ok (.bipush 13, 2) := by decide +kernel
theorem d_Fl_call_9 : decode b_Fl_call 9 = .ok (.ireturn, 1) := by decide +kernel
theorem d_Fl_execute_457 : decode b_Fl_execute 457 = .ok (.invokevirtual 105, 3) := by decide +kernel
theorem d_Fl_execute_460 : decode b_Fl_execute 460 = .ok (.ireturn, 1) := by decide +kernel
theorem d_Fl_execute_461 : decode b_Fl_execute 461 = .ok (.aload_n 0, 1) := by decide +kernel
theorem d_Fl_execute_462 : decode b_Fl_execute 462 = .ok (.aload_n 0, 1) := by decide +kernel
theorem d_Fl_execute_463 : decode b_Fl_execute 463 = .ok (.getfield 15, 3) := by decide +kernel
theorem d_Fl_execute_466 : decode b_Fl_execute 466 = .ok (.getfield 64, 3) := by decide +kernel
theorem d_Fl_execute_469 : decode b_Fl_execute 469 = .ok (.aload_n 0, 1) := by decide +kernel
theorem d_Fl_execute_470 : decode b_Fl_execute 470 = .ok (.getfield 15, 3) := by decide +kernel
theorem d_Fl_execute_473 : decode b_Fl_execute 473 = .ok (.getfield 68, 3) := by decide +kernel
theorem d_Fl_execute_476 : decode b_Fl_execute 476 = .ok (.ladd, 1) := by decide +kernel
theorem d_Fl_execute_477 : decode b_Fl_execute 477 = .ok (.invokevirtual 71, 3) := by decide +kernel
theorem d_Fl_execute_480 : decode b_Fl_execute 480 = .ok (.ireturn, 1) := by decide +kernel
theorem d_Fl_execute_481 : decode b_Fl_execute 481 = .ok (.aload_n 0, 1) := by decide +kernel
theorem d_Fl_execute_482 : decode b_Fl_execute 482 = .ok (.getfield 15, 3) := by decide +kernel
theorem d_Fl_execute_485 : decode b_Fl_execute 485 = .ok (.getfield 108, 3) := by decide +kernel
theorem d_Fl_execute_488 : decode b_Fl_execute 488 = .ok (.iconst 2, 1) := by decide +kernel
theorem d_Fl_execute_489 : decode b_Fl_execute 489 = .ok (.if_icmp .ne 17, 3) := by decide +kernel
theorem d_Fl_execute_506 : decode b_Fl_execute 506 = .ok (.aload_n 0, 1) := by decide +kernel
theorem d_Fl_execute_507 : decode b_Fl_execute 507 = .ok (.getfield 15, 3) := by decide +kernel
theorem d_Fl_execute_510 : decode b_Fl_execute 510 = .ok (.getfield 108, 3) := by decide +kernel
theorem d_Fl_execute_513 : decode b_Fl_execute 513 = .ok (.iconst 4, 1) := by decide +kernel
theorem d_Fl_execute_514 : decode b_Fl_execute 514 = .ok (.if_icmp .ne 17, 3) := by decide +kernel
theorem d_Fl_execute_531 : decode b_Fl_execute 531 = .ok (.aload_n 0, 1) := by decide +kernel
theorem d_Fl_execute_532 : decode b_Fl_execute 532 = .ok (.getfield 15, 3) := by decide +kernel
theorem d_Fl_execute_535 : decode b_Fl_execute 535 = .ok (.getfield 108, 3) := by decide +kernel
theorem d_Fl_execute_538 : decode b_Fl_execute 538 = .ok (.bipush 6, 2) := by decide +kernel
theorem d_Fl_execute_540 : decode b_Fl_execute 540 = .ok (.if_icmp .ne 24, 3) := by decide +kernel
theorem d_Fl_execute_564 : decode b_Fl_execute 564 = .ok (.bipush (-2), 2) := by decide +kernel
theorem d_Fl_execute_566 : decode b_Fl_execute 566 = .ok (.ireturn, 1) := by decide +kernel
theorem d_Fl_execute_543 : decode b_Fl_execute 543 = .ok (.aload_n 0, 1) := by decide +kernel
theorem d_Fl_execute_544 : decode b_Fl_execute 544 = .ok (.aload_n 0, 1) := by decide +kernel
theorem d_Fl_execute_545 : decode b_Fl_execute 545 = .ok (.getfield 19, 3) := by decide +kernel
theorem d_Op_value_0 : decode b_Op_value 0 = .ok (.aload_n 0, 1) := by decide +kernel
theorem d_Op_value_1 : decode b_Op_value 1 = .ok (.getfield 15, 3) := by decide +kernel
theorem d_Op_value_4 : decode b_Op_value 4 = .ok (.getfield 31, 3) := by decide +kernel
theorem d_Op_value_7 : decode b_Op_value 7 = .ok (.iconst 3, 1) := by decide +kernel
theorem d_Op_value_8 : decode b_Op_value 8 = .ok (.if_icmp .ne 21, 3) := by decide +kernel
theorem d_Op_value_29 : decode b_Op_value 29 = .ok (.aload_n 0, 1) := by decide +kernel
theorem d_Op_value_30 : decode b_Op_value 30 = .ok (.getfield 19, 3) := by decide +kernel
theorem d_Op_value_33 : decode b_Op_value 33 = .ok (.invokevirtual 105, 3) := by decide +kernel
theorem d_Op_value_36 : decode b_Op_value 36 = .ok (.lreturn, 1) := by decide +kernel
theorem d_Op_value_11 : decode b_Op_value 11 = .ok (.aload_n 0, 1) := by decide +kernel
theorem d_Op_value_12 : decode b_Op_value 12 = .ok (.aload_n 0, 1) := by decide +kernel
theorem d_Op_value_13 : decode b_Op_value 13 = .ok (.getfield 15, 3) := by decide +kernel
theorem d_Op_value_16 : decode b_Op_value 16 = .ok (.invokevirtual 98, 3) := by decide +kernel
theorem d_Op_value_19 : decode b_Op_value 19 = .ok (.aload_n 0, 1) := by decide +kernel
theorem d_Op_value_20 : decode b_Op_value 20 = .ok (.getfield 27, 3) := by decide +kernel
theorem d_Op_value_23 : decode b_Op_value 23 = .ok (.invokevirtual 101, 3) := by decide +kernel
theorem d_Op_value_26 : decode b_Op_value 26 = .ok (.goto 10, 3) := by decide +kernel
theorem d_Fl_execute_548 : decode b_Fl_execute 548 = .ok (.invokevirtual 111, 3) := by decide +kernel
theorem d_Fl_execute_551 : decode b_Fl_execute 551 = .ok (.aload_n 0, 1) := by decide +kernel
theorem d_Fl_execute_552 : decode b_Fl_execute 552 = .ok (.getfield 15, 3) := by decide +kernel
theorem d_Fl_execute_555 : decode b_Fl_execute 555 = .ok (.invokevirtual 47, 3) := by decide +kernel
theorem d_Fl_execute_558 : decode b_Fl_execute 558 = .ok (.invokevirtual 50, 3) := by decide +kernel
theorem d_Fl_execute_561 : decode b_Fl_execute 561 = .ok (.goto 5, 3) := by decide +kernel
theorem d_Fl_execute_517 : decode b_Fl_execute 517 = .ok (.aload_n 0, 1) := by decide +kernel
theorem d_Fl_execute_518 : decode b_Fl_execute 518 = .ok (.aload_n 0, 1) := by decide +kernel
theorem d_Fl_execute_519 : decode b_Fl_execute 519 = .ok (.getfield 19, 3) := by decide +kernel
theorem d_Fl_execute_522 : decode b_Fl_execute 522 = .ok (.invokevirtual 111, 3) := by decide +kernel
theorem d_Fl_execute_525 : decode b_Fl_execute 525 = .ok (.invokevirtual 71, 3) := by decide +kernel
theorem d_Fl_execute_528 : decode b_Fl_execute 528 = .ok (.goto 38, 3) := by decide +kernel
theorem d_Fl_execute_492 : decode b_Fl_execute 492 = .ok (.aload_n 0, 1) := by decide +kernel
theorem d_Fl_execute_493 : decode b_Fl_execute 493 = .ok (.aload_n 0, 1) := by decide +kernel
theorem d_Fl_execute_494 : decode b_Fl_execute 494 = .ok (.getfield 19, 3) := by decide +kernel
theorem d_Fl_execute_497 : decode b_Fl_execute 497 = .ok (.invokevirtual 111, 3) := by decide +kernel
theorem d_Fl_execute_500 : decode b_Fl_execute 500 = .ok (.invokevirtual 105, 3) := by decide +kernel
theorem d_Fl_execute_503 : decode b_Fl_execute 503 = .ok (.goto 63, 3) := by decide +kernel
theorem d_Fl_execute_567 : decode b_Fl_execute 567 = .ok (.aload_n 0, 1) := by decide +kernel
theorem d_Fl_enterSystem_0 : decode b_Fl_enterSystem 0 = .ok (.aload_n 0, 1) := by decide +kernel
theorem d_Fl_enterSystem_1 : decode b_Fl_enterSystem 1 = .ok (.getfield 9, 3) := by decide +kernel
theorem d_Fl_enterSystem_4 : decode b_Fl_enterSystem 4 = .ok (.getfield 101, 3) := by decide +kernel
theorem d_Fl_enterSystem_7 : decode b_Fl_enterSystem 7 = .ok (.iconst 1, 1) := by decide +kernel
theorem d_Fl_enterSystem_8 : decode b_Fl_enterSystem 8 = .ok (.aload_n 0, 1) := by decide +kernel
theorem d_Fl_enterSystem_9 : decode b_Fl_enterSystem 9 = .ok (.getfield 15, 3) := by decide +kernel
theorem d_Fl_enterSystem_12 : decode b_Fl_enterSystem 12 = .ok (.getfield 64, 3) := by decide +kernel
theorem d_Fl_enterSystem_15 : decode b_Fl_enterSystem 15 = .ok (.lastore, 1) := by decide +kernel
theorem d_Fl_enterSystem_16 : decode b_Fl_enterSystem 16 = .ok (.aload_n 0, 1) := by decide +kernel
theorem d_Fl_enterSystem_17 : decode b_Fl_enterSystem 17 = .ok (.getfield 9, 3) := by decide +kernel
theorem d_Fl_enterSystem_20 : decode b_Fl_enterSystem 20 = .ok (.getfield 101, 3) := by decide +kernel
theorem d_Fl_enterSystem_23 : decode b_Fl_enterSystem 23 = .ok (.bipush 11, 2) := by decide +kernel
theorem d_Fl_enterSystem_25 : decode b_Fl_enterSystem 25 = .ok (.aload_n 0, 1) := by decide +kernel
theorem d_Fl_enterSystem_26 : decode b_Fl_enterSystem 26 = .ok (.getfield 9, 3) := by decide +kernel
theorem d_Fl_enterSystem_29 : decode b_Fl_enterSystem 29 = .ok (.getfield 84, 3) := by decide +kernel
theorem d_Fl_enterSystem_32 : decode b_Fl_enterSystem 32 = .ok (.iconst 2, 1) := by decide +kernel
theorem d_Fl_enterSystem_33 : decode b_Fl_enterSystem 33 = .ok (.ior, 1) := by decide +kernel
theorem d_Fl_enterSystem_34 : decode b_Fl_enterSystem 34 = .ok (.i2l, 1) := by decide +kernel
theorem d_Fl_enterSystem_35 : decode b_Fl_enterSystem 35 = .ok (.lastore, 1) := by decide +kernel
theorem d_Fl_enterSystem_36 : decode b_Fl_enterSystem 36 = .ok (.aload_n 0, 1) := by decide +kernel
theorem d_Fl_enterSystem_37 : decode b_Fl_enterSystem 37 = .ok (.getfield 15, 3) := by decide +kernel
theorem d_Fl_enterSystem_40 : decode b_Fl_enterSystem 40 = .ok (.aload_n 0, 1) := by decide +kernel
theorem d_Fl_enterSystem_41 : decode b_Fl_enterSystem 41 = .ok (.getfield 9, 3) := by decide +kernel
theorem d_Fl_enterSystem_44 : decode b_Fl_enterSystem 44 = .ok (.getfield 158, 3) := by decide +kernel
theorem d_Fl_enterSystem_47 : decode b_Fl_enterSystem 47 = .ok (.putfield 64, 3) := by decide +kernel
theorem d_Fl_enterSystem_50 : decode b_Fl_enterSystem 50 = .ok (.aload_n 0, 1) := by decide +kernel
theorem d_Fl_enterSystem_51 : decode b_Fl_enterSystem 51 = .ok (.getfield 9, 3) := by decide +kernel
theorem d_Fl_enterSystem_54 : decode b_Fl_enterSystem 54 = .ok (.dup, 1) := by decide +kernel
theorem d_Fl_enterSystem_55 : decode b_Fl_enterSystem 55 = .ok (.getfield 84, 3) := by decide +kernel
theorem d_Fl_enterSystem_58 : decode b_Fl_enterSystem 58 = .ok (.aload_n 0, 1) := by decide +kernel
theorem d_Fl_enterSystem_59 : decode b_Fl_enterSystem 59 = .ok (.getfield 9, 3) := by decide +kernel
theorem d_Fl_enterSystem_62 : decode b_Fl_enterSystem 62 = .ok (.getfield 161, 3) := by decide +kernel
theorem d_Fl_enterSystem_65 : decode b_Fl_enterSystem 65 = .ok (.l2i, 1) := by decide +kernel
theorem d_Fl_enterSystem_66 : decode b_Fl_enterSystem 66 = .ok (.iconst (-1), 1) := by decide +kernel
theorem d_Fl_enterSystem_67 : decode b_Fl_enterSystem 67 = .ok (.ixor, 1) := by decide +kernel
theorem d_Fl_enterSystem_68 : decode b_Fl_enterSystem 68 = .ok (.iand, 1) := by decide +kernel
theorem d_Fl_enterSystem_69 : decode b_Fl_enterSystem 69 = .ok (.putfield 84, 3) := by decide +kernel
theorem d_Fl_enterSystem_72 : decode b_Fl_enterSystem 72 = .ok (.aload_n 0, 1) := by decide +kernel
theorem d_Fl_enterSystem_73 : decode b_Fl_enterSystem 73 = .ok (.getfield 9, 3) := by decide +kernel
theorem d_Fl_enterSystem_76 : decode b_Fl_enterSystem 76 = .ok (.iconst 0, 1) := by decide +kernel
theorem d_Fl_enterSystem_77 : decode b_Fl_enterSystem 77 = .ok (.putfield 164, 3) := by decide +kernel
theorem d_Fl_enterSystem_80 : decode b_Fl_enterSystem 80 = .ok (.iconst (-1), 1) := by decide +kernel
theorem d_Fl_enterSystem_81 : decode b_Fl_enterSystem 81 = .ok (.ireturn, 1) := by decide +kernel
theorem d_Fl_execute_568 : decode b_Fl_execute 568 = .ok (.invokevirtual 115, 3) := by decide +kernel
theorem d_Fl_execute_571 : decode b_Fl_execute 571 = .ok (.ireturn, 1) := by decide +kernel
theorem d_Fl_execute_572 : decode b_Fl_execute 572 = .ok (.aload_n 0, 1) := by decide +kernel
theorem d_Fl_leaveSystem_0 : decode b_Fl_leaveSystem 0 = .ok (.aload_n 0, 1) := by decide +kernel
theorem d_Fl_leaveSystem_1 : decode b_Fl_leaveSystem 1 = .ok (.getfield 9, 3) := by decide +kernel
theorem d_Fl_leaveSystem_4 : decode b_Fl_leaveSystem 4 = .ok (.getfield 164, 3) := by decide +kernel
theorem d_Fl_leaveSystem_7 : decode b_Fl_leaveSystem 7 = .ok (.ifCond .eq 8, 3) := by decide +kernel
theorem d_Fl_leaveSystem_15 : decode b_Fl_leaveSystem 15 = .ok (.aload_n 0, 1) := by decide +kernel
theorem d_Fl_leaveSystem_16 : decode b_Fl_leaveSystem 16 = .ok (.aload_n 0, 1) := by decide +kernel
theorem d_Fl_leaveSystem_17 : decode b_Fl_leaveSystem 17 = .ok (.getfield 9, 3) := by decide +kernel
theorem d_Fl_leaveSystem_20 : decode b_Fl_leaveSystem 20 = .ok (.getfield 101, 3) := by decide +kernel
theorem d_Fl_leaveSystem_23 : decode b_Fl_leaveSystem 23 = .ok (.iconst 1, 1) := by decide +kernel
theorem d_Fl_leaveSystem_24 : decode b_Fl_leaveSystem 24 = .ok (.laload, 1) := by decide +kernel
theorem d_Fl_leaveSystem_25 : decode b_Fl_leaveSystem 25 = .ok (.invokevirtual 71, 3) := by decide +kernel
theorem d_Fl_leaveSystem_28 : decode b_Fl_leaveSystem 28 = .ok (.istore_n 1, 1) := by decide +kernel
theorem d_Fl_leaveSystem_29 : decode b_Fl_leaveSystem 29 = .ok (.iload_n 1, 1) := by decide +kernel
theorem d_Fl_leaveSystem_30 : decode b_Fl_leaveSystem 30 = .ok (.iconst (-1), 1) := by decide +kernel
theorem d_Fl_leaveSystem_31 : decode b_Fl_leaveSystem 31 = .ok (.if_icmp .ne 33, 3) := by decide +kernel
theorem d_Fl_leaveSystem_64 : decode b_Fl_leaveSystem 64 = .ok (.iload_n 1, 1) := by decide +kernel
theorem d_Fl_leaveSystem_65 : decode b_Fl_leaveSystem 65 = .ok (.ireturn, 1) := by decide +kernel
theorem d_Fl_leaveSystem_34 : decode b_Fl_leaveSystem 34 = .ok (.aload_n 0, 1) := by decide +kernel
theorem d_Fl_leaveSystem_35 : decode b_Fl_leaveSystem 35 = .ok (.getfield 9, 3) := by decide +kernel
theorem d_Fl_leaveSystem_38 : decode b_Fl_leaveSystem 38 = .ok (.aload_n 0, 1) := by decide +kernel
theorem d_Fl_leaveSystem_39 : decode b_Fl_leaveSystem 39 = .ok (.getfield 9, 3) := by decide +kernel
theorem d_Fl_leaveSystem_42 : decode b_Fl_leaveSystem 42 = .ok (.getfield 101, 3) := by decide +kernel
theorem d_Fl_leaveSystem_45 : decode b_Fl_leaveSystem 45 = .ok (.bipush 11, 2) := by decide +kernel
theorem d_Fl_leaveSystem_47 : decode b_Fl_leaveSystem 47 = .ok (.laload, 1) := by decide +kernel
theorem d_Fl_leaveSystem_48 : decode b_Fl_leaveSystem 48 = .ok (.l2i, 1) := by decide +kernel
theorem d_Fl_leaveSystem_49 : decode b_Fl_leaveSystem 49 = .ok (.sipush 3285, 3) := by decide +kernel
theorem d_Fl_leaveSystem_52 : decode b_Fl_leaveSystem 52 = .ok (.iand, 1) := by decide +kernel
theorem d_Fl_leaveSystem_53 : decode b_Fl_leaveSystem 53 = .ok (.putfield 84, 3) := by decide +kernel
theorem d_Fl_leaveSystem_56 : decode b_Fl_leaveSystem 56 = .ok (.aload_n 0, 1) := by decide +kernel
theorem d_Fl_leaveSystem_57 : decode b_Fl_leaveSystem 57 = .ok (.getfield 9, 3) := by decide +kernel
theorem d_Fl_leaveSystem_60 : decode b_Fl_leaveSystem 60 = .ok (.iconst 1, 1) := by decide +kernel
theorem d_Fl_leaveSystem_61 : decode b_Fl_leaveSystem 61 = .ok (.putfield 164, 3) := by decide +kernel
theorem d_Fl_leaveSystem_10 : decode b_Fl_leaveSystem 10 = .ok (.bipush 13, 2) := by decide +kernel
theorem d_Fl_leaveSystem_12 : decode b_Fl_leaveSystem 12 = .ok (.goto 16, 3) := by decide +kernel
theorem d_Fl_execute_573 : decode b_Fl_execute 573 = .ok (.invokevirtual 118, 3) := by decide +kernel
theorem d_Fl_execute_576 : decode b_Fl_execute 576 = .ok (.ireturn, 1) := by decide +kernel
theorem d_Fl_execute_577 : decode b_Fl_execute 577 = .ok (.bipush (-2), 2) := by decide +kernel
theorem d_Fl_execute_579 : decode b_Fl_execute 579 = .ok (.ireturn, 1) := by decide +kernel
theorem d_Co_step_32 : decode b_Co_step 32 = .ok (.invokevirtual 147, 3) := by decide +kernel
theorem d_Co_step_35 : decode b_Co_step 35 = .ok (.istore_n 1, 1) := by decide +kernel
theorem d_Co_step_36 : decode b_Co_step 36 = .ok (.iload_n 1, 1) := by decide +kernel
theorem d_Co_step_37 : decode b_Co_step 37 = .ok (.bipush (-2), 2) := by decide +kernel
theorem d_Co_step_39 : decode b_Co_step 39 = .ok (.if_icmp .ne 11, 3) := by decide +kernel
theorem d_Co_step_50 : decode b_Co_step 50 = .ok (.iload_n 1, 1) := by decide +kernel
theorem d_Co_step_51 : decode b_Co_step 51 = .ok (.bipush (-2), 2) := by decide +kernel
theorem d_Co_step_53 : decode b_Co_step 53 = .ok (.if_icmp .ne 34, 3) := by decide +kernel
theorem d_Co_step_87 : decode b_Co_step 87 = .ok (.iload_n 1, 1) := by decide +kernel
theorem d_Co_step_88 : decode b_Co_step 88 = .ok (.iconst (-1), 1) := by decide +kernel
theorem d_Co_step_89 : decode b_Co_step 89 = .ok (.if_icmp .ne 17, 3) := by decide +kernel
theorem d_Co_step_106 : decode b_Co_step 106 = .ok (.iload_n 1, 1) := by decide +kernel
theorem d_Co_step_107 : decode b_Co_step 107 = .ok (.ireturn, 1) := by decide +kernel
theorem d_Co_step_92 : decode b_Co_step 92 = .ok (.aload_n 0, 1) := by decide +kernel
theorem d_Co_step_93 : decode b_Co_step 93 = .ok (.getfield 12, 3) := by decide +kernel
theorem d_Co_step_96 : decode b_Co_step 96 = .ok (.aload_n 0, 1) := by decide +kernel
theorem d_Co_step_97 : decode b_Co_step 97 = .ok (.getfield 30, 3) := by decide +kernel
theorem d_Co_step_100 : decode b_Co_step 100 = .ok (.getfield 156, 3) := by decide +kernel
theorem d_Co_step_103 : decode b_Co_step 103 = .ok (.putfield 108, 3) := by decide +kernel
theorem d_Co_step_56 : decode b_Co_step 56 = .ok (.aload_n 0, 1) := by decide +kernel
theorem d_Co_step_57 : decode b_Co_step 57 = .ok (.getfield 30, 3) := by decide +kernel
theorem d_Co_step_60 : decode b_Co_step 60 = .ok (.getfield 151, 3) := by decide +kernel
theorem d_Co_step_63 : decode b_Co_step 63 = .ok (.sipush 256, 3) := by decide +kernel
theorem d_Co_step_66 : decode b_Co_step 66 = .ok (.if_icmp .ge 13, 3) := by decide +kernel
theorem d_Co_step_79 : decode b_Co_step 79 = .ok (.aload_n 0, 1) := by decide +kernel
theorem d_Co_step_80 : decode b_Co_step 80 = .ok (.getfield 88, 3) := by decide +kernel
theorem d_Tw_execute_0 : decode b_Tw_execute 0 = .ok (.aload_n 0, 1) := by decide +kernel
theorem d_Tw_execute_1 : decode b_Tw_execute 1 = .ok (.getfield 9, 3) := by decide +kernel
theorem d_Tw_execute_4 : decode b_Tw_execute 4 = .ok (.getfield 27, 3) := by decide +kernel
theorem d_Tw_execute_7 : decode b_Tw_execute 7 = .ok (.sipush 256, 3) := by decide +kernel
theorem d_Tw_execute_10 : decode b_Tw_execute 10 = .ok (.isub, 1) := by decide +kernel
theorem d_Tw_execute_11 : decode b_Tw_execute 11 = .ok (.istore_n 1, 1) := by decide +kernel
theorem d_Tw_execute_12 : decode b_Tw_execute 12 = .ok (.iload_n 1, 1) := by decide +kernel
theorem d_Tw_execute_13 : decode b_Tw_execute 13 = .ok (.bipush (-8), 2) := by decide +kernel
theorem d_Tw_execute_15 : decode b_Tw_execute 15 = .ok (.iand, 1) := by decide +kernel
theorem d_Tw_execute_16 : decode b_Tw_execute 16 = .ok (.lookupswitch 100 #[(64, 52), (72, 52), (144, 67), (152, 67), (200, 93)], 52) := by decide +kernel
theorem d_Tw_execute_68 : decode b_Tw_execute 68 = .ok (.aload_n 0, 1) := by decide +kernel
theorem d_Tw_execute_69 : decode b_Tw_execute 69 = .ok (.aload_n 0, 1) := by decide +kernel
theorem d_Tw_execute_70 : decode b_Tw_execute 70 = .ok (.getfield 19, 3) := by decide +kernel
theorem d_Tw_execute_73 : decode b_Tw_execute 73 = .ok (.iload_n 1, 1) := by decide +kernel
theorem d_Tw_execute_74 : decode b_Tw_execute 74 = .ok (.invokevirtual 33, 3) := by decide +kernel
theorem d_Tw_moveIf_0 : decode b_Tw_moveIf 0 = .ok (.aload_n 0, 1) := by decide +kernel
theorem d_Tw_moveIf_1 : decode b_Tw_moveIf 1 = .ok (.getfield 15, 3) := by decide +kernel
theorem d_Tw_moveIf_4 : decode b_Tw_moveIf 4 = .ok (.getfield 95, 3) := by decide +kernel
theorem d_Tw_moveIf_7 : decode b_Tw_moveIf 7 = .ok (.istore_n 2, 1) := by decide +kernel
theorem d_Tw_moveIf_8 : decode b_Tw_moveIf 8 = .ok (.aload_n 0, 1) := by decide +kernel
theorem d_Tw_moveIf_9 : decode b_Tw_moveIf 9 = .ok (.getfield 15, 3) := by decide +kernel
theorem d_Tw_moveIf_12 : decode b_Tw_moveIf 12 = .ok (.iload_n 1, 1) := by decide +kernel
theorem d_Tw_moveIf_13 : decode b_Tw_moveIf 13 = .ok (.ifCond .eq 13, 3) := by decide +kernel
theorem d_Tw_moveIf_26 : decode b_Tw_moveIf 26 = .ok (.aload_n 0, 1) := by decide +kernel
theorem d_Tw_moveIf_27 : decode b_Tw_moveIf 27 = .ok (.getfield 15, 3) := by decide +kernel
theorem d_Tw_moveIf_30 : decode b_Tw_moveIf 30 = .ok (.iload_n 2, 1) := by decide +kernel
theorem d_Op_g_0 : decode b_Op_g 0 = .ok (.aload_n 0, 1) := by decide +kernel
theorem d_Op_g_1 : decode b_Op_g 1 = .ok (.aload_n 0, 1) := by decide +kernel
theorem d_Op_g_2 : decode b_Op_g 2 = .ok (.getfield 15, 3) := by decide +kernel
theorem d_De_registerG_0 : decode b_De_registerG 0 = .ok (.aload_n 0, 1) := by decide +kernel
theorem d_De_registerG_1 : decode b_De_registerG 1 = .ok (.getfield 103, 3) := by decide +kernel
theorem d_De_registerG_4 : decode b_De_registerG 4 = .ok (.aload_n 0, 1) := by decide +kernel
theorem d_De_registerG_5 : decode b_De_registerG 5 = .ok (.iconst 4, 1) := by decide +kernel
theorem d_De_registerG_6 : decode b_De_registerG 6 = .ok (.invokevirtual 113, 3) := by decide +kernel
theorem d_De_registerG_9 : decode b_De_registerG 9 = .ok (.ior, 1) := by decide +kernel
theorem d_De_registerG_10 : decode b_De_registerG 10 = .ok (.ireturn, 1) := by decide +kernel
theorem d_Op_g_5 : decode b_Op_g 5 = .ok (.invokevirtual 116, 3) := by decide +kernel
theorem d_Op_g_8 : decode b_Op_g 8 = .ok (.iload_n 1, 1) := by decide +kernel
theorem d_Op_g_9 : decode b_Op_g 9 = .ok (.invokevirtual 101, 3) := by decide +kernel
theorem d_Op_g_12 : decode b_Op_g 12 = .ok (.lreturn, 1) := by decide +kernel
theorem d_Tw_moveIf_31 : decode b_Tw_moveIf 31 = .ok (.invokevirtual 60, 3) := by decide +kernel
theorem d_Tw_moveIf_34 : decode b_Tw_moveIf 34 = .ok (.iload_n 2, 1) := by decide +kernel
theorem d_Op_putG_0 : decode b_Op_putG 0 = .ok (.aload_n 0, 1) := by decide +kernel
theorem d_Op_putG_1 : decode b_Op_putG 1 = .ok (.aload_n 0, 1) := by decide +kernel
theorem d_Op_putG_2 : decode b_Op_putG 2 = .ok (.getfield 15, 3) := by decide +kernel
theorem d_Op_putG_5 : decode b_Op_putG 5 = .ok (.invokevirtual 116, 3) := by decide +kernel
theorem d_Op_putG_8 : decode b_Op_putG 8 = .ok (.lload_n 1, 1) := by decide +kernel
theorem d_Op_putG_9 : decode b_Op_putG 9 = .ok (.iload_n 3, 1) := by decide +kernel
theorem d_Op_putG_10 : decode b_Op_putG 10 = .ok (.invokevirtual 108, 3) := by decide +kernel
theorem d_Op_putG_13 : decode b_Op_putG 13 = .ok (.return_, 1) := by decide +kernel
theorem d_Tw_moveIf_35 : decode b_Tw_moveIf 35 = .ok (.invokevirtual 88, 3) := by decide +kernel
theorem d_Tw_moveIf_38 : decode b_Tw_moveIf 38 = .ok (.return_, 1) := by decide +kernel
theorem d_Tw_moveIf_16 : decode b_Tw_moveIf 16 = .ok (.aload_n 0, 1) := by decide +kernel
theorem d_Tw_moveIf_17 : decode b_Tw_moveIf 17 = .ok (.getfield 15, 3) := by decide +kernel
theorem d_Tw_moveIf_20 : decode b_Tw_moveIf 20 = .ok (.invokevirtual 75, 3) := by decide +kernel
theorem d_Tw_moveIf_23 : decode b_Tw_moveIf 23 = .ok (.goto 11, 3) := by decide +kernel
theorem d_Tw_execute_77 : decode b_Tw_execute 77 = .ok (.invokevirtual 39, 3) := by decide +kernel
theorem d_Tw_execute_80 : decode b_Tw_execute 80 = .ok (.goto 41, 3) := by decide +kernel
theorem d_Tw_execute_121 : decode b_Tw_execute 121 = .ok (.iconst (-1), 1) := by decide +kernel
theorem d_Tw_execute_122 : decode b_Tw_execute 122 = .ok (.ireturn, 1) := by decide +kernel
theorem d_Tw_execute_83 : decode b_Tw_execute 83 = .ok (.aload_n 0, 1) := by decide +kernel
theorem d_Tw_execute_84 : decode b_Tw_execute 84 = .ok (.getfield 15, 3) := by decide +kernel
theorem d_Tw_execute_87 : decode b_Tw_execute 87 = .ok (.aload_n 0, 1) := by decide +kernel
theorem d_Tw_execute_88 : decode b_Tw_execute 88 = .ok (.getfield 19, 3) := by decide +kernel
theorem d_Tw_execute_91 : decode b_Tw_execute 91 = .ok (.iload_n 1, 1) := by decide +kernel
theorem d_Tw_execute_92 : decode b_Tw_execute 92 = .ok (.invokevirtual 33, 3) := by decide +kernel
theorem d_Tw_execute_95 : decode b_Tw_execute 95 = .ok (.ifCond .eq 7, 3) := by decide +kernel
theorem d_Tw_execute_102 : decode b_Tw_execute 102 = .ok (.lconst 0, 1) := by decide +kernel
theorem d_Tw_execute_103 : decode b_Tw_execute 103 = .ok (.invokevirtual 43, 3) := by decide +kernel
theorem d_Tw_execute_106 : decode b_Tw_execute 106 = .ok (.goto 15, 3) := by decide +kernel
theorem d_Tw_execute_98 : decode b_Tw_execute 98 = .ok (.lconst 1, 1) := by decide +kernel
theorem d_Tw_execute_99 : decode b_Tw_execute 99 = .ok (.goto 4, 3) := by decide +kernel
theorem d_Tw_execute_109 : decode b_Tw_execute 109 = .ok (.aload_n 0, 1) := by decide +kernel
theorem d_Tw_turnBytes_0 : decode b_Tw_turnBytes 0 = .ok (.aload_n 0, 1) := by decide +kernel
theorem d_Tw_turnBytes_1 : decode b_Tw_turnBytes 1 = .ok (.getfield 9, 3) := by decide +kernel
theorem d_Tw_turnBytes_4 : decode b_Tw_turnBytes 4 = .ok (.invokevirtual 56, 3) := by decide +kernel
theorem d_Tw_turnBytes_7 : decode b_Tw_turnBytes 7 = .ok (.istore_n 1, 1) := by decide +kernel
theorem d_Tw_turnBytes_8 : decode b_Tw_turnBytes 8 = .ok (.aload_n 0, 1) := by decide +kernel
theorem d_Tw_turnBytes_9 : decode b_Tw_turnBytes 9 = .ok (.getfield 15, 3) := by decide +kernel
theorem d_Tw_turnBytes_12 : decode b_Tw_turnBytes 12 = .ok (.aload_n 0, 1) := by decide +kernel
theorem d_Tw_turnBytes_13 : decode b_Tw_turnBytes 13 = .ok (.getfield 9, 3) := by decide +kernel
theorem d_Tw_turnBytes_16 : decode b_Tw_turnBytes 16 = .ok (.invokevirtual 109, 3) := by decide +kernel
theorem d_Tw_turnBytes_19 : decode b_Tw_turnBytes 19 = .ok (.iload_n 1, 1) := by decide +kernel
theorem d_Tw_turnBytes_20 : decode b_Tw_turnBytes 20 = .ok (.invokevirtual 112, 3) := by decide +kernel
theorem d_Tw_turnBytes_23 : decode b_Tw_turnBytes 23 = .ok (.lstore_n 2, 1) := by decide +kernel
theorem d_Tw_turnBytes_24 : decode b_Tw_turnBytes 24 = .ok (.lconst 0, 1) := by decide +kernel
theorem d_Tw_turnBytes_25 : decode b_Tw_turnBytes 25 = .ok (.lstore 4, 2) := by decide +kernel
theorem d_Tw_turnBytes_27 : decode b_Tw_turnBytes 27 = .ok (.iconst 0, 1) := by decide +kernel
theorem d_Tw_turnBytes_28 : decode b_Tw_turnBytes 28 = .ok (.istore 6, 2) := by decide +kernel
theorem d_Tw_turnBytes_30 : decode b_Tw_turnBytes 30 = .ok (.iload 6, 2) := by decide +kernel
theorem d_Tw_turnBytes_32 : decode b_Tw_turnBytes 32 = .ok (.iload_n 1, 1) := by decide +kernel
theorem d_Tw_turnBytes_33 : decode b_Tw_turnBytes 33 = .ok (.if_icmp .ge 28, 3) := by decide +kernel
theorem d_Tw_turnBytes_61 : decode b_Tw_turnBytes 61 = .ok (.aload_n 0, 1) := by decide +kernel
theorem d_Tw_turnBytes_62 : decode b_Tw_turnBytes 62 = .ok (.getfield 15, 3) := by decide +kernel
theorem d_Tw_turnBytes_65 : decode b_Tw_turnBytes 65 = .ok (.aload_n 0, 1) := by decide +kernel
theorem d_Tw_turnBytes_66 : decode b_Tw_turnBytes 66 = .ok (.getfield 9, 3) := by decide +kernel
theorem d_Tw_turnBytes_69 : decode b_Tw_turnBytes 69 = .ok (.invokevirtual 109, 3) := by decide +kernel
theorem d_Tw_turnBytes_72 : decode b_Tw_turnBytes 72 = .ok (.lload 4, 2) := by decide +kernel
theorem d_Tw_turnBytes_74 : decode b_Tw_turnBytes 74 = .ok (.iload_n 1, 1) := by decide +kernel
theorem d_Tw_turnBytes_75 : decode b_Tw_turnBytes 75 = .ok (.invokevirtual 118, 3) := by decide +kernel
theorem d_Tw_turnBytes_78 : decode b_Tw_turnBytes 78 = .ok (.return_, 1) := by decide +kernel
theorem d_Tw_turnBytes_36 : decode b_Tw_turnBytes 36 = .ok (.lload 4, 2) := by decide +kernel
theorem d_Tw_turnBytes_38 : decode b_Tw_turnBytes 38 = .ok (.bipush 8, 2) := by decide +kernel
theorem d_Tw_turnBytes_40 : decode b_Tw_turnBytes 40 = .ok (.lshl, 1) := by decide +kernel
theorem d_Tw_turnBytes_41 : decode b_Tw_turnBytes 41 = .ok (.lload_n 2, 1) := by decide +kernel
theorem d_Tw_turnBytes_42 : decode b_Tw_turnBytes 42 = .ok (.bipush 8, 2) := by decide +kernel
theorem d_Tw_turnBytes_44 : decode b_Tw_turnBytes 44 = .ok (.iload 6, 2) := by decide +kernel
theorem d_Tw_turnBytes_46 : decode b_Tw_turnBytes 46 = .ok (.imul, 1) := by decide +kernel
theorem d_Tw_turnBytes_47 : decode b_Tw_turnBytes 47 = .ok (.lushr, 1) := by decide +kernel
theorem d_Tw_turnBytes_48 : decode b_Tw_turnBytes 48 = .ok (.ldc2_w 116, 3) := by decide +kernel
theorem d_Tw_turnBytes_51 : decode b_Tw_turnBytes 51 = .ok (.land, 1) := by decide +kernel
theorem d_Tw_turnBytes_52 : decode b_Tw_turnBytes 52 = .ok (.lor, 1) := by decide +kernel
theorem d_Tw_turnBytes_53 : decode b_Tw_turnBytes 53 = .ok (.lstore 4, 2) := by decide +kernel
theorem d_Tw_turnBytes_55 : decode b_Tw_turnBytes 55 = .ok (.iinc 6 1, 3) := by decide +kernel
theorem d_Tw_turnBytes_58 : decode b_Tw_turnBytes 58 = .ok (.goto (-28), 3) := by decide +kernel
theorem d_Tw_execute_110 : decode b_Tw_execute 110 = .ok (.invokevirtual 49, 3) := by decide +kernel
theorem d_Tw_execute_113 : decode b_Tw_execute 113 = .ok (.goto 8, 3) := by decide +kernel
theorem d_Tw_execute_116 : decode b_Tw_execute 116 = .ok (.aload_n 0, 1) := by decide +kernel
theorem d_Tw_execute_117 : decode b_Tw_execute 117 = .ok (.iload_n 1, 1) := by decide +kernel
theorem d_Tw_executeSingle_0 : decode b_Tw_executeSingle 0 = .ok (.aload_n 0, 1) := by decide +kernel
theorem d_Tw_executeSingle_1 : decode b_Tw_executeSingle 1 = .ok (.getfield 9, 3) := by decide +kernel
theorem d_Tw_executeSingle_4 : decode b_Tw_executeSingle 4 = .ok (.invokevirtual 56, 3) := by decide +kernel
theorem d_Tw_executeSingle_7 : decode b_Tw_executeSingle 7 = .ok (.istore_n 2, 1) := by decide +kernel
theorem d_Tw_executeSingle_8 : decode b_Tw_executeSingle 8 = .ok (.iload_n 1, 1) := by decide +kernel
theorem d_Tw_executeSingle_9 : decode b_Tw_executeSingle 9 = .ok (.tableswitch 311 163 193 #[139, 311, 311, 311, 311, 311, 311, 311, 139, 311, 311, 311, 182, 224, 224, 311, 139, 311, 311, 231, 231, 311, 311, 159, 139, 277, 277, 249, 249, 304, 304], 139) := by decide +kernel
theorem d_Tw_executeSingle_320 : decode b_Tw_executeSingle 320 = .ok (.return_, 1) := by decide +kernel
theorem d_Tw_executeSingle_148 : decode b_Tw_executeSingle 148 = .ok (.aload_n 0, 1) := by decide +kernel
theorem d_Tw_executeSingle_149 : decode b_Tw_executeSingle 149 = .ok (.iload_n 1, 1) := by decide +kernel
theorem d_Tw_executeSingle_150 : decode b_Tw_executeSingle 150 = .ok (.iconst 3, 1) := by decide +kernel
theorem d_Tw_executeSingle_151 : decode b_Tw_executeSingle 151 = .ok (.ishr, 1) := by decide +kernel
theorem d_Tw_executeSingle_152 : decode b_Tw_executeSingle 152 = .ok (.iconst 3, 1) := by decide +kernel
theorem d_Tw_executeSingle_153 : decode b_Tw_executeSingle 153 = .ok (.iand, 1) := by decide +kernel
theorem d_Tw_executeSingle_154 : decode b_Tw_executeSingle 154 = .ok (.aload_n 0, 1) := by decide +kernel
theorem d_Tw_executeSingle_155 : decode b_Tw_executeSingle 155 = .ok (.getfield 15, 3) := by decide +kernel
theorem d_Tw_executeSingle_158 : decode b_Tw_executeSingle 158 = .ok (.iload_n 2, 1) := by decide +kernel
theorem d_Tw_executeSingle_159 : decode b_Tw_executeSingle 159 = .ok (.invokevirtual 60, 3) := by decide +kernel
theorem d_Tw_useBit_0 : decode b_Tw_useBit 0 = .ok (.aload_n 0, 1) := by decide +kernel
theorem d_Tw_useBit_1 : decode b_Tw_useBit 1 = .ok (.getfield 15, 3) := by decide +kernel
theorem d_Tw_useBit_4 : decode b_Tw_useBit 4 = .ok (.invokevirtual 75, 3) := by decide +kernel
theorem d_Tw_useBit_7 : decode b_Tw_useBit 7 = .ok (.lstore 4, 2) := by decide +kernel
theorem d_Tw_useBit_9 : decode b_Tw_useBit 9 = .ok (.lconst 1, 1) := by decide +kernel
theorem d_Tw_useBit_10 : decode b_Tw_useBit 10 = .ok (.lload_n 2, 1) := by decide +kernel
theorem d_Tw_useBit_11 : decode b_Tw_useBit 11 = .ok (.ldc2_w 122, 3) := by decide +kernel
theorem d_Tw_useBit_14 : decode b_Tw_useBit 14 = .ok (.aload_n 0, 1) := by decide +kernel
theorem d_Tw_useBit_15 : decode b_Tw_useBit 15 = .ok (.getfield 15, 3) := by decide +kernel
theorem d_Tw_useBit_18 : decode b_Tw_useBit 18 = .ok (.getfield 95, 3) := by decide +kernel
theorem d_Tw_useBit_21 : decode b_Tw_useBit 21 = .ok (.i2l, 1) := by decide +kernel
theorem d_Tw_useBit_22 : decode b_Tw_useBit 22 = .ok (.lmul, 1) := by decide +kernel
theorem d_Tw_useBit_23 : decode b_Tw_useBit 23 = .ok (.lconst 1, 1) := by decide +kernel
theorem d_Tw_useBit_24 : decode b_Tw_useBit 24 = .ok (.lsub, 1) := by decide +kernel
theorem d_Tw_useBit_25 : decode b_Tw_useBit 25 = .ok (.land, 1) := by decide +kernel
theorem d_Tw_useBit_26 : decode b_Tw_useBit 26 = .ok (.l2i, 1) := by decide +kernel
theorem d_Tw_useBit_27 : decode b_Tw_useBit 27 = .ok (.lshl, 1) := by decide +kernel
theorem d_Tw_useBit_28 : decode b_Tw_useBit 28 = .ok (.lstore 6, 2) := by decide +kernel
theorem d_Tw_useBit_30 : decode b_Tw_useBit 30 = .ok (.lload 4, 2) := by decide +kernel
theorem d_Tw_useBit_32 : decode b_Tw_useBit 32 = .ok (.lload 6, 2) := by decide +kernel
theorem d_Tw_useBit_34 : decode b_Tw_useBit 34 = .ok (.land, 1) := by decide +kernel
theorem d_Tw_useBit_35 : decode b_Tw_useBit 35 = .ok (.lconst 0, 1) := by decide +kernel
theorem d_Tw_useBit_36 : decode b_Tw_useBit 36 = .ok (.lcmp, 1) := by decide +kernel
theorem d_Tw_useBit_37 : decode b_Tw_useBit 37 = .ok (.ifCond .eq 7, 3) := by decide +kernel
theorem d_Tw_useBit_44 : decode b_Tw_useBit 44 = .ok (.iconst 0, 1) := by decide +kernel
theorem d_Tw_useBit_45 : decode b_Tw_useBit 45 = .ok (.istore 8, 2) := by decide +kernel
theorem d_Tw_useBit_47 : decode b_Tw_useBit 47 = .ok (.aload_n 0, 1) := by decide +kernel
theorem d_Tw_useBit_48 : decode b_Tw_useBit 48 = .ok (.getfield 19, 3) := by decide +kernel
theorem d_Tw_useBit_51 : decode b_Tw_useBit 51 = .ok (.iconst 1, 1) := by decide +kernel
theorem d_Tw_useBit_52 : decode b_Tw_useBit 52 = .ok (.iload 8, 2) := by decide +kernel
theorem d_Tw_useBit_54 : decode b_Tw_useBit 54 = .ok (.ifCond .eq 7, 3) := by decide +kernel
theorem d_Tw_useBit_61 : decode b_Tw_useBit 61 = .ok (.iconst 0, 1) := by decide +kernel
theorem d_Tw_useBit_62 : decode b_Tw_useBit 62 = .ok (.sipush 2196, 3) := by decide +kernel
theorem d_Ar_settle_0 : decode b_Ar_settle 0 = .ok (.aload_n 0, 1) := by decide +kernel
theorem d_Ar_settle_1 : decode b_Ar_settle 1 = .ok (.getfield 9, 3) := by decide +kernel
theorem d_Ar_settle_4 : decode b_Ar_settle 4 = .ok (.getfield 17, 3) := by decide +kernel
theorem d_Ar_settle_7 : decode b_Ar_settle 7 = .ok (.iload_n 1, 1) := by decide +kernel
theorem d_Ar_settle_8 : decode b_Ar_settle 8 = .ok (.iload_n 3, 1) := by decide +kernel
theorem d_Ar_settle_9 : decode b_Ar_settle 9 = .ok (.ior, 1) := by decide +kernel
theorem d_Ar_settle_10 : decode b_Ar_settle 10 = .ok (.iconst (-1), 1) := by decide +kernel
theorem d_Ar_settle_11 : decode b_Ar_settle 11 = .ok (.ixor, 1) := by decide +kernel
theorem d_Ar_settle_12 : decode b_Ar_settle 12 = .ok (.iand, 1) := by decide +kernel
theorem d_Ar_settle_13 : decode b_Ar_settle 13 = .ok (.istore 4, 2) := by decide +kernel
theorem d_Ar_settle_15 : decode b_Ar_settle 15 = .ok (.aload_n 0, 1) := by decide +kernel
theorem d_Ar_settle_16 : decode b_Ar_settle 16 = .ok (.getfield 9, 3) := by decide +kernel
theorem d_Ar_settle_19 : decode b_Ar_settle 19 = .ok (.iload 4, 2) := by decide +kernel
theorem d_Ar_settle_21 : decode b_Ar_settle 21 = .ok (.iload_n 2, 1) := by decide +kernel
theorem d_Ar_settle_22 : decode b_Ar_settle 22 = .ok (.iload_n 1, 1) := by decide +kernel
theorem d_Ar_settle_23 : decode b_Ar_settle 23 = .ok (.iand, 1) := by decide +kernel
theorem d_Ar_settle_24 : decode b_Ar_settle 24 = .ok (.ior, 1) := by decide +kernel
theorem d_Ar_settle_25 : decode b_Ar_settle 25 = .ok (.aload_n 0, 1) := by decide +kernel
theorem d_Ar_settle_26 : decode b_Ar_settle 26 = .ok (.getfield 9, 3) := by decide +kernel
theorem d_Ar_settle_29 : decode b_Ar_settle 29 = .ok (.getfield 23, 3) := by decide +kernel
theorem d_Ar_settle_32 : decode b_Ar_settle 32 = .ok (.l2i, 1) := by decide +kernel
theorem d_Ar_settle_33 : decode b_Ar_settle 33 = .ok (.iload_n 3, 1) := by decide +kernel
theorem d_Ar_settle_34 : decode b_Ar_settle 34 = .ok (.iand, 1) := by decide +kernel
theorem d_Ar_settle_35 : decode b_Ar_settle 35 = .ok (.ior, 1) := by decide +kernel
theorem d_Ar_settle_36 : decode b_Ar_settle 36 = .ok (.putfield 17, 3) := by decide +kernel
theorem d_Ar_settle_39 : decode b_Ar_settle 39 = .ok (.return_, 1) := by decide +kernel
theorem d_Tw_useBit_65 : decode b_Tw_useBit 65 = .ok (.invokevirtual 124, 3) := by decide +kernel
theorem d_Tw_useBit_68 : decode b_Tw_useBit 68 = .ok (.iload_n 1, 1) := by decide +kernel
theorem d_Tw_useBit_69 : decode b_Tw_useBit 69 = .ok (.iconst 1, 1) := by decide +kernel
theorem d_Tw_useBit_70 : decode b_Tw_useBit 70 = .ok (.if_icmp .ne 18, 3) := by decide +kernel
theorem d_Tw_useBit_88 : decode b_Tw_useBit 88 = .ok (.iload_n 1, 1) := by decide +kernel
theorem d_Tw_useBit_89 : decode b_Tw_useBit 89 = .ok (.iconst 2, 1) := by decide +kernel
theorem d_Tw_useBit_90 : decode b_Tw_useBit 90 = .ok (.if_icmp .ne 22, 3) := by decide +kernel
theorem d_Tw_useBit_112 : decode b_Tw_useBit 112 = .ok (.iload_n 1, 1) := by decide +kernel
theorem d_Tw_useBit_113 : decode b_Tw_useBit 113 = .ok (.iconst 3, 1) := by decide +kernel
theorem d_Tw_useBit_114 : decode b_Tw_useBit 114 = .ok (.if_icmp .ne 15, 3) := by decide +kernel
theorem d_Tw_useBit_129 : decode b_Tw_useBit 129 = .ok (.return_, 1) := by decide +kernel
theorem d_Tw_useBit_117 : decode b_Tw_useBit 117 = .ok (.aload_n 0, 1) := by decide +kernel
theorem d_Tw_useBit_118 : decode b_Tw_useBit 118 = .ok (.getfield 15, 3) := by decide +kernel
theorem d_Tw_useBit_121 : decode b_Tw_useBit 121 = .ok (.lload 4, 2) := by decide +kernel
theorem d_Tw_useBit_123 : decode b_Tw_useBit 123 = .ok (.lload 6, 2) := by decide +kernel
theorem d_Tw_useBit_125 : decode b_Tw_useBit 125 = .ok (.lxor, 1) := by decide +kernel
theorem d_Tw_useBit_126 : decode b_Tw_useBit 126 = .ok (.invokevirtual 43, 3) := by decide +kernel
theorem d_Tw_useBit_93 : decode b_Tw_useBit 93 = .ok (.aload_n 0, 1) := by decide +kernel
theorem d_Tw_useBit_94 : decode b_Tw_useBit 94 = .ok (.getfield 15, 3) := by decide +kernel
theorem d_Tw_useBit_97 : decode b_Tw_useBit 97 = .ok (.lload 4, 2) := by decide +kernel
theorem d_Tw_useBit_99 : decode b_Tw_useBit 99 = .ok (.lload 6, 2) := by decide +kernel
theorem d_Tw_useBit_101 : decode b_Tw_useBit 101 = .ok (.ldc2_w 128, 3) := by decide +kernel
theorem d_Tw_useBit_104 : decode b_Tw_useBit 104 = .ok (.lxor, 1) := by decide +kernel
theorem d_Tw_useBit_105 : decode b_Tw_useBit 105 = .ok (.land, 1) := by decide +kernel
theorem d_Tw_useBit_106 : decode b_Tw_useBit 106 = .ok (.invokevirtual 43, 3) := by decide +kernel
theorem d_Tw_useBit_109 : decode b_Tw_useBit 109 = .ok (.goto 20, 3) := by decide +kernel
theorem d_Tw_useBit_73 : decode b_Tw_useBit 73 = .ok (.aload_n 0, 1) := by decide +kernel
theorem d_Tw_useBit_74 : decode b_Tw_useBit 74 = .ok (.getfield 15, 3) := by decide +kernel
theorem d_Tw_useBit_77 : decode b_Tw_useBit 77 = .ok (.lload 4, 2) := by decide +kernel
theorem d_Tw_useBit_79 : decode b_Tw_useBit 79 = .ok (.lload 6, 2) := by decide +kernel
theorem d_Tw_useBit_81 : decode b_Tw_useBit 81 = .ok (.lor, 1) := by decide +kernel
theorem d_Tw_useBit_82 : decode b_Tw_useBit 82 = .ok (.invokevirtual 43, 3) := by decide +kernel
theorem d_Tw_useBit_85 : decode b_Tw_useBit 85 = .ok (.goto 44, 3) := by decide +kernel
theorem d_Tw_useBit_57 : decode b_Tw_useBit 57 = .ok (.iconst 1, 1) := by decide +kernel
theorem d_Tw_useBit_58 : decode b_Tw_useBit 58 = .ok (.goto 4, 3) := by decide +kernel
theorem d_Tw_useBit_40 : decode b_Tw_useBit 40 = .ok (.iconst 1, 1) := by decide +kernel
theorem d_Tw_useBit_41 : decode b_Tw_useBit 41 = .ok (.goto 4, 3) := by decide +kernel
theorem d_Tw_executeSingle_162 : decode b_Tw_executeSingle 162 = .ok (.invokevirtual 64, 3) := by decide +kernel
theorem d_Tw_executeSingle_165 : decode b_Tw_executeSingle 165 = .ok (.goto 155, 3) := by decide +kernel
theorem d_Tw_executeSingle_191 : decode b_Tw_executeSingle 191 = .ok (.aload_n 0, 1) := by decide +kernel
theorem d_Tw_executeSingle_192 : decode b_Tw_executeSingle 192 = .ok (.getfield 23, 3) := by decide +kernel
theorem d_Tw_executeSingle_195 : decode b_Tw_executeSingle 195 = .ok (.aload_n 0, 1) := by decide +kernel
theorem d_Tw_executeSingle_196 : decode b_Tw_executeSingle 196 = .ok (.getfield 15, 3) := by decide +kernel
theorem d_Tw_executeSingle_199 : decode b_Tw_executeSingle 199 = .ok (.iload_n 2, 1) := by decide +kernel
theorem d_Tw_executeSingle_200 : decode b_Tw_executeSingle 200 = .ok (.invokevirtual 60, 3) := by decide +kernel
theorem d_Tw_executeSingle_203 : decode b_Tw_executeSingle 203 = .ok (.aload_n 0, 1) := by decide +kernel
theorem d_Tw_executeSingle_204 : decode b_Tw_executeSingle 204 = .ok (.getfield 15, 3) := by decide +kernel
theorem d_Tw_executeSingle_207 : decode b_Tw_executeSingle 207 = .ok (.invokevirtual 75, 3) := by decide +kernel
theorem d_Tw_executeSingle_210 : decode b_Tw_executeSingle 210 = .ok (.iload_n 2, 1) := by decide +kernel
theorem d_Tw_executeSingle_211 : decode b_Tw_executeSingle 211 = .ok (.iconst 1, 1) := by decide +kernel
theorem d_Wi_multiply_0 : decode b_Wi_multiply 0 = .ok (.iload 5, 2) := by decide +kernel
theorem d_Wi_multiply_2 : decode b_Wi_multiply 2 = .ok (.bipush 8, 2) := by decide +kernel
theorem d_Wi_multiply_4 : decode b_Wi_multiply 4 = .ok (.if_icmp .ne 59, 3) := by decide +kernel
theorem d_Wi_multiply_63 : decode b_Wi_multiply 63 = .ok (.iload 6, 2) := by decide +kernel
theorem d_Wi_multiply_65 : decode b_Wi_multiply 65 = .ok (.ifCond .eq 19, 3) := by decide +kernel
theorem d_Wi_multiply_84 : decode b_Wi_multiply 84 = .ok (.lload_n 1, 1) := by decide +kernel
theorem d_Wi_multiply_85 : decode b_Wi_multiply 85 = .ok (.lload_n 3, 1) := by decide +kernel
theorem d_Wi_multiply_86 : decode b_Wi_multiply 86 = .ok (.lmul, 1) := by decide +kernel
theorem d_Wi_multiply_87 : decode b_Wi_multiply 87 = .ok (.lstore 7, 2) := by decide +kernel
theorem d_Wi_multiply_89 : decode b_Wi_multiply 89 = .ok (.aload_n 0, 1) := by decide +kernel
theorem d_Wi_multiply_90 : decode b_Wi_multiply 90 = .ok (.lload 7, 2) := by decide +kernel
theorem d_Wi_multiply_92 : decode b_Wi_multiply 92 = .ok (.iload 5, 2) := by decide +kernel
theorem d_Wi_multiply_94 : decode b_Wi_multiply 94 = .ok (.invokestatic 32, 3) := by decide +kernel
theorem d_Wi_multiply_97 : decode b_Wi_multiply 97 = .ok (.land, 1) := by decide +kernel
theorem d_Wi_multiply_98 : decode b_Wi_multiply 98 = .ok (.putfield 15, 3) := by decide +kernel
theorem d_Wi_multiply_101 : decode b_Wi_multiply 101 = .ok (.aload_n 0, 1) := by decide +kernel
theorem d_Wi_multiply_102 : decode b_Wi_multiply 102 = .ok (.lload 7, 2) := by decide +kernel
theorem d_Wi_multiply_104 : decode b_Wi_multiply 104 = .ok (.bipush 8, 2) := by decide +kernel
theorem d_Wi_multiply_106 : decode b_Wi_multiply 106 = .ok (.iload 5, 2) := by decide +kernel
theorem d_Wi_multiply_108 : decode b_Wi_multiply 108 = .ok (.imul, 1) := by decide +kernel
theorem d_Wi_multiply_109 : decode b_Wi_multiply 109 = .ok (.lushr, 1) := by decide +kernel
theorem d_Wi_multiply_110 : decode b_Wi_multiply 110 = .ok (.iload 5, 2) := by decide +kernel
theorem d_Wi_multiply_112 : decode b_Wi_multiply 112 = .ok (.invokestatic 32, 3) := by decide +kernel
theorem d_Wi_multiply_115 : decode b_Wi_multiply 115 = .ok (.land, 1) := by decide +kernel
theorem d_Wi_multiply_116 : decode b_Wi_multiply 116 = .ok (.putfield 23, 3) := by decide +kernel
theorem d_Wi_multiply_119 : decode b_Wi_multiply 119 = .ok (.iload 6, 2) := by decide +kernel
theorem d_Wi_multiply_121 : decode b_Wi_multiply 121 = .ok (.ifCond .eq 21, 3) := by decide +kernel
theorem d_Wi_multiply_142 : decode b_Wi_multiply 142 = .ok (.iconst 0, 1) := by decide +kernel
theorem d_Wi_multiply_143 : decode b_Wi_multiply 143 = .ok (.istore 7, 2) := by decide +kernel
theorem d_Wi_multiply_145 : decode b_Wi_multiply 145 = .ok (.aload_n 0, 1) := by decide +kernel
theorem d_Wi_multiply_146 : decode b_Wi_multiply 146 = .ok (.getfield 23, 3) := by decide +kernel
theorem d_Wi_multiply_149 : decode b_Wi_multiply 149 = .ok (.iload 7, 2) := by decide +kernel
theorem d_Wi_multiply_151 : decode b_Wi_multiply 151 = .ok (.ifCond .eq 11, 3) := by decide +kernel
theorem d_Wi_multiply_162 : decode b_Wi_multiply 162 = .ok (.lconst 0, 1) := by decide +kernel
theorem d_Wi_multiply_163 : decode b_Wi_multiply 163 = .ok (.lcmp, 1) := by decide +kernel
theorem d_Wi_multiply_164 : decode b_Wi_multiply 164 = .ok (.ifCond .eq 7, 3) := by decide +kernel
theorem d_Wi_multiply_171 : decode b_Wi_multiply 171 = .ok (.iconst 0, 1) := by decide +kernel
theorem d_Wi_multiply_172 : decode b_Wi_multiply 172 = .ok (.istore 8, 2) := by decide +kernel
theorem d_Wi_multiply_174 : decode b_Wi_multiply 174 = .ok (.aload_n 0, 1) := by decide +kernel
theorem d_Wi_multiply_175 : decode b_Wi_multiply 175 = .ok (.getfield 9, 3) := by decide +kernel
theorem d_Wi_multiply_178 : decode b_Wi_multiply 178 = .ok (.sipush 2049, 3) := by decide +kernel
theorem d_Wi_multiply_181 : decode b_Wi_multiply 181 = .ok (.iload 8, 2) := by decide +kernel
theorem d_Wi_multiply_183 : decode b_Wi_multiply 183 = .ok (.ifCond .eq 9, 3) := by decide +kernel
theorem d_Wi_multiply_192 : decode b_Wi_multiply 192 = .ok (.iconst 0, 1) := by decide +kernel
theorem d_Wi_multiply_193 : decode b_Wi_multiply 193 = .ok (.sipush 212, 3) := by decide +kernel
theorem d_Wi_multiply_196 : decode b_Wi_multiply 196 = .ok (.invokevirtual 36, 3) := by decide +kernel
theorem d_Wi_multiply_199 : decode b_Wi_multiply 199 = .ok (.return_, 1) := by decide +kernel
theorem d_Wi_multiply_186 : decode b_Wi_multiply 186 = .ok (.sipush 2049, 3) := by decide +kernel
theorem d_Wi_multiply_189 : decode b_Wi_multiply 189 = .ok (.goto 4, 3) := by decide +kernel
theorem d_Wi_multiply_167 : decode b_Wi_multiply 167 = .ok (.iconst 1, 1) := by decide +kernel
theorem d_Wi_multiply_168 : decode b_Wi_multiply 168 = .ok (.goto 4, 3) := by decide +kernel
theorem d_Wi_multiply_154 : decode b_Wi_multiply 154 = .ok (.iload 5, 2) := by decide +kernel
theorem d_Wi_multiply_156 : decode b_Wi_multiply 156 = .ok (.invokestatic 32, 3) := by decide +kernel
theorem d_Wi_multiply_159 : decode b_Wi_multiply 159 = .ok (.goto 4, 3) := by decide +kernel
theorem d_Wi_multiply_124 : decode b_Wi_multiply 124 = .ok (.aload_n 0, 1) := by decide +kernel
theorem d_Wi_multiply_125 : decode b_Wi_multiply 125 = .ok (.getfield 15, 3) := by decide +kernel
theorem d_Wi_multiply_128 : decode b_Wi_multiply 128 = .ok (.iload 5, 2) := by decide +kernel
theorem d_Wi_multiply_130 : decode b_Wi_multiply 130 = .ok (.invokestatic 26, 3) := by decide +kernel
theorem d_Wi_multiply_133 : decode b_Wi_multiply 133 = .ok (.lconst 0, 1) := by decide +kernel
theorem d_Wi_multiply_134 : decode b_Wi_multiply 134 = .ok (.lcmp, 1) := by decide +kernel
theorem d_Wi_multiply_135 : decode b_Wi_multiply 135 = .ok (.ifCond .ge 7, 3) := by decide +kernel
theorem d_Wi_multiply_138 : decode b_Wi_multiply 138 = .ok (.iconst 1, 1) := by decide +kernel
theorem d_Wi_multiply_139 : decode b_Wi_multiply 139 = .ok (.goto 4, 3) := by decide +kernel
theorem d_Wi_multiply_68 : decode b_Wi_multiply 68 = .ok (.lload_n 1, 1) := by decide +kernel
theorem d_Wi_multiply_69 : decode b_Wi_multiply 69 = .ok (.iload 5, 2) := by decide +kernel
theorem d_Wi_multiply_71 : decode b_Wi_multiply 71 = .ok (.invokestatic 26, 3) := by decide +kernel
theorem d_Wi_multiply_74 : decode b_Wi_multiply 74 = .ok (.lload_n 3, 1) := by decide +kernel
theorem d_Wi_multiply_75 : decode b_Wi_multiply 75 = .ok (.iload 5, 2) := by decide +kernel
theorem d_Wi_multiply_77 : decode b_Wi_multiply 77 = .ok (.invokestatic 26, 3) := by decide +kernel
theorem d_Wi_multiply_80 : decode b_Wi_multiply 80 = .ok (.lmul, 1) := by decide +kernel
theorem d_Wi_multiply_81 : decode b_Wi_multiply 81 = .ok (.goto 6, 3) := by decide +kernel
theorem d_Wi_multiply_7 : decode b_Wi_multiply 7 = .ok (.aload_n 0, 1) := by decide +kernel
theorem d_Wi_multiply_8 : decode b_Wi_multiply 8 = .ok (.lload_n 1, 1) := by decide +kernel
theorem d_Wi_multiply_9 : decode b_Wi_multiply 9 = .ok (.lload_n 3, 1) := by decide +kernel
theorem d_Wi_multiply_10 : decode b_Wi_multiply 10 = .ok (.lmul, 1) := by decide +kernel
theorem d_Wi_multiply_11 : decode b_Wi_multiply 11 = .ok (.putfield 15, 3) := by decide +kernel
theorem d_Wi_multiply_14 : decode b_Wi_multiply 14 = .ok (.aload_n 0, 1) := by decide +kernel
theorem d_Wi_multiply_15 : decode b_Wi_multiply 15 = .ok (.lload_n 1, 1) := by decide +kernel
theorem d_Wi_multiply_16 : decode b_Wi_multiply 16 = .ok (.lload_n 3, 1) := by decide +kernel
theorem d_Wi_upperHalf_0 : decode b_Wi_upperHalf 0 = .ok (.lload_n 0, 1) := by decide +kernel
theorem d_Wi_upperHalf_1 : decode b_Wi_upperHalf 1 = .ok (.ldc2_w 40, 3) := by decide +kernel
theorem d_Wi_upperHalf_4 : decode b_Wi_upperHalf 4 = .ok (.land, 1) := by decide +kernel
theorem d_Wi_upperHalf_5 : decode b_Wi_upperHalf 5 = .ok (.lstore 4, 2) := by decide +kernel
theorem d_Wi_upperHalf_7 : decode b_Wi_upperHalf 7 = .ok (.lload_n 0, 1) := by decide +kernel
theorem d_Wi_upperHalf_8 : decode b_Wi_upperHalf 8 = .ok (.bipush 32, 2) := by decide +kernel
theorem d_Wi_upperHalf_10 : decode b_Wi_upperHalf 10 = .ok (.lushr, 1) := by decide +kernel
theorem d_Wi_upperHalf_11 : decode b_Wi_upperHalf 11 = .ok (.lstore 6, 2) := by decide +kernel
theorem d_Wi_upperHalf_13 : decode b_Wi_upperHalf 13 = .ok (.lload_n 2, 1) := by decide +kernel
theorem d_Wi_upperHalf_14 : decode b_Wi_upperHalf 14 = .ok (.ldc2_w 40, 3) := by decide +kernel
theorem d_Wi_upperHalf_17 : decode b_Wi_upperHalf 17 = .ok (.land, 1) := by decide +kernel
theorem d_Wi_upperHalf_18 : decode b_Wi_upperHalf 18 = .ok (.lstore 8, 2) := by decide +kernel
theorem d_Wi_upperHalf_20 : decode b_Wi_upperHalf 20 = .ok (.lload_n 2, 1) := by decide +kernel
theorem d_Wi_upperHalf_21 : decode b_Wi_upperHalf 21 = .ok (.bipush 32, 2) := by decide +kernel
theorem d_Wi_upperHalf_23 : decode b_Wi_upperHalf 23 = .ok (.lushr, 1) := by decide +kernel
theorem d_Wi_upperHalf_24 : decode b_Wi_upperHalf 24 = .ok (.lstore 10, 2) := by decide +kernel
theorem d_Wi_upperHalf_26 : decode b_Wi_upperHalf 26 = .ok (.lload 6, 2) := by decide +kernel
theorem d_Wi_upperHalf_28 : decode b_Wi_upperHalf 28 = .ok (.lload 8, 2) := by decide +kernel
theorem d_Wi_upperHalf_30 : decode b_Wi_upperHalf 30 = .ok (.lmul, 1) := by decide +kernel
theorem d_Wi_upperHalf_31 : decode b_Wi_upperHalf 31 = .ok (.lload 4, 2) := by decide +kernel
theorem d_Wi_upperHalf_33 : decode b_Wi_upperHalf 33 = .ok (.lload 8, 2) := by decide +kernel
theorem d_Wi_upperHalf_35 : decode b_Wi_upperHalf 35 = .ok (.lmul, 1) := by decide +kernel
theorem d_Wi_upperHalf_36 : decode b_Wi_upperHalf 36 = .ok (.bipush 32, 2) := by decide +kernel
theorem d_Wi_upperHalf_38 : decode b_Wi_upperHalf 38 = .ok (.lushr, 1) := by decide +kernel
theorem d_Wi_upperHalf_39 : decode b_Wi_upperHalf 39 = .ok (.ladd, 1) := by decide +kernel
theorem d_Wi_upperHalf_40 : decode b_Wi_upperHalf 40 = .ok (.lstore 12, 2) := by decide +kernel
theorem d_Wi_upperHalf_42 : decode b_Wi_upperHalf 42 = .ok (.lload 4, 2) := by decide +kernel
theorem d_Wi_upperHalf_44 : decode b_Wi_upperHalf 44 = .ok (.lload 10, 2) := by decide +kernel
theorem d_Wi_upperHalf_46 : decode b_Wi_upperHalf 46 = .ok (.lmul, 1) := by decide +kernel
theorem d_Wi_upperHalf_47 : decode b_Wi_upperHalf 47 = .ok (.lload 12, 2) := by decide +kernel
theorem d_Wi_upperHalf_49 : decode b_Wi_upperHalf 49 = .ok (.ldc2_w 40, 3) := by decide +kernel
theorem d_Wi_upperHalf_52 : decode b_Wi_upperHalf 52 = .ok (.land, 1) := by decide +kernel
theorem d_Wi_upperHalf_53 : decode b_Wi_upperHalf 53 = .ok (.ladd, 1) := by decide +kernel
theorem d_Wi_upperHalf_54 : decode b_Wi_upperHalf 54 = .ok (.lstore 14, 2) := by decide +kernel
theorem d_Wi_upperHalf_56 : decode b_Wi_upperHalf 56 = .ok (.lload 6, 2) := by decide +kernel
theorem d_Wi_upperHalf_58 : decode b_Wi_upperHalf 58 = .ok (.lload 10, 2) := by decide +kernel
theorem d_Wi_upperHalf_60 : decode b_Wi_upperHalf 60 = .ok (.lmul, 1) := by decide +kernel
theorem d_Wi_upperHalf_61 : decode b_Wi_upperHalf 61 = .ok (.lload 12, 2) := by decide +kernel
theorem d_Wi_upperHalf_63 : decode b_Wi_upperHalf 63 = .ok (.bipush 32, 2) := by decide +kernel
theorem d_Wi_upperHalf_65 : decode b_Wi_upperHalf 65 = .ok (.lushr, 1) := by decide +kernel
theorem d_Wi_upperHalf_66 : decode b_Wi_upperHalf 66 = .ok (.ladd, 1) := by decide +kernel
theorem d_Wi_upperHalf_67 : decode b_Wi_upperHalf 67 = .ok (.lload 14, 2) := by decide +kernel
theorem d_Wi_upperHalf_69 : decode b_Wi_upperHalf 69 = .ok (.bipush 32, 2) := by decide +kernel
theorem d_Wi_upperHalf_71 : decode b_Wi_upperHalf 71 = .ok (.lushr, 1) := by decide +kernel
theorem d_Wi_upperHalf_72 : decode b_Wi_upperHalf 72 = .ok (.ladd, 1) := by decide +kernel
theorem d_Wi_upperHalf_73 : decode b_Wi_upperHalf 73 = .ok (.lreturn, 1) := by decide +kernel
theorem d_Wi_multiply_17 : decode b_Wi_multiply 17 = .ok (.invokestatic 19, 3) := by decide +kernel
theorem d_Wi_multiply_20 : decode b_Wi_multiply 20 = .ok (.putfield 23, 3) := by decide +kernel
theorem d_Wi_multiply_23 : decode b_Wi_multiply 23 = .ok (.iload 6, 2) := by decide +kernel
theorem d_Wi_multiply_25 : decode b_Wi_multiply 25 = .ok (.ifCond .eq 94, 3) := by decide +kernel
theorem d_Wi_multiply_28 : decode b_Wi_multiply 28 = .ok (.aload_n 0, 1) := by decide +kernel
theorem d_Wi_multiply_29 : decode b_Wi_multiply 29 = .ok (.dup, 1) := by decide +kernel
theorem d_Wi_multiply_30 : decode b_Wi_multiply 30 = .ok (.getfield 23, 3) := by decide +kernel
theorem d_Wi_multiply_33 : decode b_Wi_multiply 33 = .ok (.lload_n 1, 1) := by decide +kernel
theorem d_Wi_multiply_34 : decode b_Wi_multiply 34 = .ok (.lconst 0, 1) := by decide +kernel
theorem d_Wi_multiply_35 : decode b_Wi_multiply 35 = .ok (.lcmp, 1) := by decide +kernel
