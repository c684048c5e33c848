theorem fl_Co_21 : Cond.fieldLink z_RCo 21 "LongModeCore" "pages" "LLongModeCore$Pages;" ∈ z_tbl := z_at (k := 334) (by decide +kernel) rfl
theorem kl_Pa_19 : Cond.constantLong z_RPa 19 (32768) ∈ z_tbl := z_at (k := 366) (by decide +kernel) rfl
theorem kl_Pa_21 : Cond.constantLong z_RPa 21 (7) ∈ z_tbl := z_at (k := 367) (by decide +kernel) rfl
theorem fl_Pa_11 : Cond.fieldLink z_RPa 11 "LongModeCore$Pages" "words" "[J" ∈ z_tbl := z_at (k := 89) (by decide +kernel) rfl
theorem kl_Pa_23 : Cond.constantLong z_RPa 23 (255) ∈ z_tbl := z_at (k := 368) (by decide +kernel) rfl
theorem kl_Pa_25 : Cond.constantLong z_RPa 25 (-1) ∈ z_tbl := z_at (k := 369) (by decide +kernel) rfl
theorem ml_Co_92 : Cond.methodLink z_RCo 92 y_Pa_putByte ∈ z_tbl := z_at (k := 362) (by decide +kernel) rfl
theorem kl_Mo_60 : Cond.constantLong z_RMo 60 (8) ∈ z_tbl := z_at (k := 1074) (by decide +kernel) rfl
theorem kl_Mo_42 : Cond.constantLong z_RMo 42 (32768) ∈ z_tbl := z_at (k := 1083) (by decide +kernel) rfl
theorem fl_Mo_8 : Cond.fieldLink z_RMo 8 "LongModeCoreModel" "memory" "[B" ∈ z_tbl := z_at (k := 926) (by decide +kernel) rfl
theorem ml_Co_96 : Cond.methodLink z_RCo 96 y_Pa_byteAt ∈ z_tbl := z_at (k := 374) (by decide +kernel) rfl
theorem ml_Mo_44 : Cond.methodLink z_RMo 44 y_Mo_byteAt ∈ z_tbl := z_at (k := 1079) (by decide +kernel) rfl
theorem ml_Mo_62 : Cond.methodLink z_RMo 62 y_Mo_eight ∈ z_tbl := z_at (k := 1075) (by decide +kernel) rfl
theorem kl_Co_166 : Cond.constantLong z_RCo 166 (4294967295) ∈ z_tbl := z_at (k := 385) (by decide +kernel) rfl
theorem ml_Co_100 : Cond.methodLink z_RCo 100 y_Co_joined ∈ z_tbl := z_at (k := 382) (by decide +kernel) rfl
theorem fl_Co_12 : Cond.fieldLink z_RCo 12 "LongModeCore" "state" "LLongModeCore$State;" ∈ z_tbl := z_at (k := 333) (by decide +kernel) rfl
theorem fl_Co_108 : Cond.fieldLink z_RCo 108 "LongModeCore$State" "next" "J" ∈ z_tbl := z_at (k := 39) (by decide +kernel) rfl
theorem fl_Co_112 : Cond.fieldLink z_RCo 112 "LongModeCore$State" "table" "J" ∈ z_tbl := z_at (k := 40) (by decide +kernel) rfl
theorem fl_Co_115 : Cond.fieldLink z_RCo 115 "LongModeCore$State" "entry" "J" ∈ z_tbl := z_at (k := 42) (by decide +kernel) rfl
theorem fl_Co_118 : Cond.fieldLink z_RCo 118 "LongModeCore$State" "mask" "J" ∈ z_tbl := z_at (k := 44) (by decide +kernel) rfl
theorem fl_Co_121 : Cond.fieldLink z_RCo 121 "LongModeCore$State" "flags" "I" ∈ z_tbl := z_at (k := 53) (by decide +kernel) rfl
theorem fl_Co_125 : Cond.fieldLink z_RCo 125 "LongModeCore$State" "undefined" "J" ∈ z_tbl := z_at (k := 47) (by decide +kernel) rfl
theorem fl_Co_104 : Cond.fieldLink z_RCo 104 "LongModeCore$State" "registers" "[J" ∈ z_tbl := z_at (k := 33) (by decide +kernel) rfl
theorem kl_Mo_459 : Cond.constantLong z_RMo 459 (4294967295) ∈ z_tbl := z_at (k := 1422) (by decide +kernel) rfl
theorem ml_Mo_461 : Cond.methodLink z_RMo 461 y_Mo_join ∈ z_tbl := z_at (k := 1419) (by decide +kernel) rfl
theorem fl_Mo_205 : Cond.fieldLink z_RMo 205 "LongModeCoreModel" "undefined" "J" ∈ z_tbl := z_at (k := 933) (by decide +kernel) rfl
theorem fl_Mo_21 : Cond.fieldLink z_RMo 21 "LongModeCoreModel" "flag" "[Z" ∈ z_tbl := z_at (k := 939) (by decide +kernel) rfl
theorem kl_Mo_75 : Cond.constantLong z_RMo 75 (4) ∈ z_tbl := z_at (k := 1087) (by decide +kernel) rfl
theorem kl_Mo_451 : Cond.constantLong z_RMo 451 (16) ∈ z_tbl := z_at (k := 1196) (by decide +kernel) rfl
theorem kl_Mo_453 : Cond.constantLong z_RMo 453 (64) ∈ z_tbl := z_at (k := 1197) (by decide +kernel) rfl
theorem kl_Mo_66 : Cond.constantLong z_RMo 66 (128) ∈ z_tbl := z_at (k := 1084) (by decide +kernel) rfl
theorem kl_Mo_455 : Cond.constantLong z_RMo 455 (1024) ∈ z_tbl := z_at (k := 1198) (by decide +kernel) rfl
theorem kl_Mo_457 : Cond.constantLong z_RMo 457 (2048) ∈ z_tbl := z_at (k := 1199) (by decide +kernel) rfl
theorem ml_Mo_316 : Cond.methodLink z_RMo 316 y_Mo_setFlags ∈ z_tbl := z_at (k := 1200) (by decide +kernel) rfl
theorem fl_Mo_448 : Cond.fieldLink z_RMo 448 "LongModeCoreModel" "mask" "J" ∈ z_tbl := z_at (k := 932) (by decide +kernel) rfl
theorem fl_Mo_445 : Cond.fieldLink z_RMo 445 "LongModeCoreModel" "entryPlace" "J" ∈ z_tbl := z_at (k := 931) (by decide +kernel) rfl
theorem fl_Mo_52 : Cond.fieldLink z_RMo 52 "LongModeCoreModel" "table" "J" ∈ z_tbl := z_at (k := 930) (by decide +kernel) rfl
theorem fl_Mo_111 : Cond.fieldLink z_RMo 111 "LongModeCoreModel" "next" "J" ∈ z_tbl := z_at (k := 929) (by decide +kernel) rfl
theorem fl_Mo_14 : Cond.fieldLink z_RMo 14 "LongModeCoreModel" "\x72" "[J" ∈ z_tbl := z_at (k := 927) (by decide +kernel) rfl
theorem fl_Co_128 : Cond.fieldLink z_RCo 128 "LongModeCore$State" "fault" "J" ∈ z_tbl := z_at (k := 48) (by decide +kernel) rfl
theorem fl_Co_131 : Cond.fieldLink z_RCo 131 "LongModeCore$State" "code" "I" ∈ z_tbl := z_at (k := 55) (by decide +kernel) rfl
theorem fl_Co_134 : Cond.fieldLink z_RCo 134 "LongModeCore$State" "user" "Z" ∈ z_tbl := z_at (k := 57) (by decide +kernel) rfl
theorem kl_Co_138 : Cond.constantLong z_RCo 138 (3) ∈ z_tbl := z_at (k := 390) (by decide +kernel) rfl
theorem ml_Mo_304 : Cond.methodLink z_RMo 304 y_Mo_flags ∈ z_tbl := z_at (k := 1192) (by decide +kernel) rfl
theorem fl_Mo_89 : Cond.fieldLink z_RMo 89 "LongModeCoreModel" "fault" "J" ∈ z_tbl := z_at (k := 934) (by decide +kernel) rfl
theorem fl_Mo_92 : Cond.fieldLink z_RMo 92 "LongModeCoreModel" "code" "I" ∈ z_tbl := z_at (k := 935) (by decide +kernel) rfl
theorem fl_Mo_48 : Cond.fieldLink z_RMo 48 "LongModeCoreModel" "user" "Z" ∈ z_tbl := z_at (k := 937) (by decide +kernel) rfl
theorem kl_Mo_464 : Cond.constantLong z_RMo 464 (3) ∈ z_tbl := z_at (k := 1427) (by decide +kernel) rfl
theorem fl_Co_30 : Cond.fieldLink z_RCo 30 "LongModeCore" "decoder" "LLongModeCore$Decoder;" ∈ z_tbl := z_at (k := 335) (by decide +kernel) rfl
theorem fl_De_65 : Cond.fieldLink z_RDe 65 "LongModeCore$Decoder" "count" "I" ∈ z_tbl := z_at (k := 103) (by decide +kernel) rfl
theorem fl_De_71 : Cond.fieldLink z_RDe 71 "LongModeCore$Decoder" "shortened" "Z" ∈ z_tbl := z_at (k := 107) (by decide +kernel) rfl
theorem fl_De_75 : Cond.fieldLink z_RDe 75 "LongModeCore$Decoder" "repeat" "I" ∈ z_tbl := z_at (k := 115) (by decide +kernel) rfl
theorem fl_De_78 : Cond.fieldLink z_RDe 78 "LongModeCore$Decoder" "rex" "I" ∈ z_tbl := z_at (k := 108) (by decide +kernel) rfl
theorem fl_De_84 : Cond.fieldLink z_RDe 84 "LongModeCore$Decoder" "last" "I" ∈ z_tbl := z_at (k := 105) (by decide +kernel) rfl
theorem fl_De_23 : Cond.fieldLink z_RDe 23 "LongModeCore$Decoder" "opcode" "I" ∈ z_tbl := z_at (k := 120) (by decide +kernel) rfl
theorem fl_De_9 : Cond.fieldLink z_RDe 9 "LongModeCore$Decoder" "state" "LLongModeCore$State;" ∈ z_tbl := z_at (k := 101) (by decide +kernel) rfl
theorem fl_De_60 : Cond.fieldLink z_RDe 60 "LongModeCore$State" "next" "J" ∈ z_tbl := z_at (k := 37) (by decide +kernel) rfl
theorem fl_De_15 : Cond.fieldLink z_RDe 15 "LongModeCore$Decoder" "pages" "LLongModeCore$Pages;" ∈ z_tbl := z_at (k := 102) (by decide +kernel) rfl
theorem ml_Pa_27 : Cond.methodLink z_RPa 27 y_Pa_isWrong ∈ z_tbl := z_at (k := 416) (by decide +kernel) rfl
theorem fl_Pa_15 : Cond.fieldLink z_RPa 15 "LongModeCore$Pages" "state" "LLongModeCore$State;" ∈ z_tbl := z_at (k := 88) (by decide +kernel) rfl
theorem fl_Pa_31 : Cond.fieldLink z_RPa 31 "LongModeCore$State" "table" "J" ∈ z_tbl := z_at (k := 41) (by decide +kernel) rfl
theorem kl_Pa_37 : Cond.constantLong z_RPa 37 (4503599627366400) ∈ z_tbl := z_at (k := 419) (by decide +kernel) rfl
theorem kl_Pa_39 : Cond.constantLong z_RPa 39 (4095) ∈ z_tbl := z_at (k := 420) (by decide +kernel) rfl
theorem fl_Pa_63 : Cond.fieldLink z_RPa 63 "LongModeCore$State" "user" "Z" ∈ z_tbl := z_at (k := 58) (by decide +kernel) rfl
theorem kl_Pa_67 : Cond.constantLong z_RPa 67 (4) ∈ z_tbl := z_at (k := 429) (by decide +kernel) rfl
theorem kl_Pa_61 : Cond.constantLong z_RPa 61 (2) ∈ z_tbl := z_at (k := 426) (by decide +kernel) rfl
theorem ml_Pa_57 : Cond.methodLink z_RPa 57 y_Pa_isForbidden ∈ z_tbl := z_at (k := 435) (by decide +kernel) rfl
theorem kl_Pa_71 : Cond.constantLong z_RPa 71 (-2) ∈ z_tbl := z_at (k := 428) (by decide +kernel) rfl
theorem kl_Pa_69 : Cond.constantLong z_RPa 69 (16) ∈ z_tbl := z_at (k := 427) (by decide +kernel) rfl
theorem ml_Pa_43 : Cond.methodLink z_RPa 43 y_Pa_refused ∈ z_tbl := z_at (k := 422) (by decide +kernel) rfl
theorem kl_Pa_41 : Cond.constantLong z_RPa 41 (511) ∈ z_tbl := z_at (k := 421) (by decide +kernel) rfl
theorem kl_Pa_47 : Cond.constantLong z_RPa 47 (128) ∈ z_tbl := z_at (k := 430) (by decide +kernel) rfl
theorem kl_Pa_51 : Cond.constantLong z_RPa 51 (9) ∈ z_tbl := z_at (k := 432) (by decide +kernel) rfl
theorem kl_Pa_49 : Cond.constantLong z_RPa 49 (2088960) ∈ z_tbl := z_at (k := 431) (by decide +kernel) rfl
theorem kl_Pa_53 : Cond.constantLong z_RPa 53 (4503599625273344) ∈ z_tbl := z_at (k := 433) (by decide +kernel) rfl
theorem kl_Pa_55 : Cond.constantLong z_RPa 55 (2097151) ∈ z_tbl := z_at (k := 434) (by decide +kernel) rfl
theorem ml_De_147 : Cond.methodLink z_RDe 147 y_Pa_locate ∈ z_tbl := z_at (k := 412) (by decide +kernel) rfl
theorem fl_De_144 : Cond.fieldLink z_RDe 144 "LongModeCore$Decoder" "found" "J" ∈ z_tbl := z_at (k := 104) (by decide +kernel) rfl
theorem ml_De_154 : Cond.methodLink z_RDe 154 y_Pa_byteAt ∈ z_tbl := z_at (k := 443) (by decide +kernel) rfl
theorem fl_Pa_73 : Cond.fieldLink z_RPa 73 "LongModeCore$State" "fault" "J" ∈ z_tbl := z_at (k := 49) (by decide +kernel) rfl
theorem fl_Pa_76 : Cond.fieldLink z_RPa 76 "LongModeCore$State" "code" "I" ∈ z_tbl := z_at (k := 56) (by decide +kernel) rfl
theorem ml_De_150 : Cond.methodLink z_RDe 150 y_Pa_refusal ∈ z_tbl := z_at (k := 439) (by decide +kernel) rfl
theorem kl_De_142 : Cond.constantLong z_RDe 142 (4095) ∈ z_tbl := z_at (k := 411) (by decide +kernel) rfl
theorem ml_De_81 : Cond.methodLink z_RDe 81 y_De_fetch ∈ z_tbl := z_at (k := 407) (by decide +kernel) rfl
theorem ml_De_87 : Cond.methodLink z_RDe 87 y_De_isPrefix ∈ z_tbl := z_at (k := 444) (by decide +kernel) rfl
theorem ml_De_90 : Cond.methodLink z_RDe 90 y_De_takePrefix ∈ z_tbl := z_at (k := 447) (by decide +kernel) rfl
theorem ml_De_19 : Cond.methodLink z_RDe 19 y_De_fetchOpcode ∈ z_tbl := z_at (k := 403) (by decide +kernel) rfl
theorem ml_De_31 : Cond.methodLink z_RDe 31 y_De_formOfTwo ∈ z_tbl := z_at (k := 460) (by decide +kernel) rfl
theorem ml_De_100 : Cond.methodLink z_RDe 100 y_De_sizeV ∈ z_tbl := z_at (k := 467) (by decide +kernel) rfl
theorem ml_De_34 : Cond.methodLink z_RDe 34 y_De_isToldInSize ∈ z_tbl := z_at (k := 463) (by decide +kernel) rfl
theorem fl_De_38 : Cond.fieldLink z_RDe 38 "LongModeCore$Decoder" "mod" "I" ∈ z_tbl := z_at (k := 124) (by decide +kernel) rfl
theorem fl_De_103 : Cond.fieldLink z_RDe 103 "LongModeCore$Decoder" "reg" "I" ∈ z_tbl := z_at (k := 130) (by decide +kernel) rfl
theorem ml_De_128 : Cond.methodLink z_RDe 128 y_Ma_min ∈ z_tbl := z_at (k := 498) (by decide +kernel) rfl
theorem ml_De_47 : Cond.methodLink z_RDe 47 y_De_bytesOfNumber ∈ z_tbl := z_at (k := 494) (by decide +kernel) rfl
theorem fl_De_53 : Cond.fieldLink z_RDe 53 "LongModeCore$Decoder" "fetched" "J" ∈ z_tbl := z_at (k := 106) (by decide +kernel) rfl
theorem ml_De_134 : Cond.methodLink z_RDe 134 y_Ar_signed ∈ z_tbl := z_at (k := 491) (by decide +kernel) rfl
theorem ml_De_50 : Cond.methodLink z_RDe 50 y_De_fetchNumber ∈ z_tbl := z_at (k := 487) (by decide +kernel) rfl
theorem fl_De_57 : Cond.fieldLink z_RDe 57 "LongModeCore$Decoder" "number" "J" ∈ z_tbl := z_at (k := 133) (by decide +kernel) rfl
theorem fl_De_68 : Cond.fieldLink z_RDe 68 "LongModeCore$Decoder" "onward" "J" ∈ z_tbl := z_at (k := 137) (by decide +kernel) rfl
theorem fl_De_106 : Cond.fieldLink z_RDe 106 "LongModeCore$Decoder" "rm" "I" ∈ z_tbl := z_at (k := 131) (by decide +kernel) rfl
theorem ml_De_113 : Cond.methodLink z_RDe 113 y_De_extension ∈ z_tbl := z_at (k := 483) (by decide +kernel) rfl
theorem fl_De_116 : Cond.fieldLink z_RDe 116 "LongModeCore$Decoder" "base" "I" ∈ z_tbl := z_at (k := 110) (by decide +kernel) rfl
theorem fl_De_119 : Cond.fieldLink z_RDe 119 "LongModeCore$Decoder" "index" "I" ∈ z_tbl := z_at (k := 111) (by decide +kernel) rfl
theorem fl_De_122 : Cond.fieldLink z_RDe 122 "LongModeCore$Decoder" "scale" "I" ∈ z_tbl := z_at (k := 112) (by decide +kernel) rfl
theorem fl_De_125 : Cond.fieldLink z_RDe 125 "LongModeCore$Decoder" "displacement" "J" ∈ z_tbl := z_at (k := 113) (by decide +kernel) rfl
theorem ml_De_44 : Cond.methodLink z_RDe 44 y_De_fetchPlace ∈ z_tbl := z_at (k := 479) (by decide +kernel) rfl
theorem ml_De_109 : Cond.methodLink z_RDe 109 y_De_isToldWithModrm ∈ z_tbl := z_at (k := 475) (by decide +kernel) rfl
theorem ml_De_41 : Cond.methodLink z_RDe 41 y_De_fetchModrm ∈ z_tbl := z_at (k := 471) (by decide +kernel) rfl
theorem ml_De_94 : Cond.methodLink z_RDe 94 y_De_formOfSum ∈ z_tbl := z_at (k := 454) (by decide +kernel) rfl
theorem ml_De_97 : Cond.methodLink z_RDe 97 y_De_formOfSingle ∈ z_tbl := z_at (k := 457) (by decide +kernel) rfl
theorem ml_De_27 : Cond.methodLink z_RDe 27 y_De_formOfOne ∈ z_tbl := z_at (k := 451) (by decide +kernel) rfl
theorem ml_Co_140 : Cond.methodLink z_RCo 140 y_De_decode ∈ z_tbl := z_at (k := 399) (by decide +kernel) rfl
theorem fl_Co_61 : Cond.fieldLink z_RCo 61 "LongModeCore" "flow" "LLongModeCore$Flow;" ∈ z_tbl := z_at (k := 337) (by decide +kernel) rfl
theorem fl_Fl_15 : Cond.fieldLink z_RFl 15 "LongModeCore$Flow" "code" "LLongModeCore$Decoder;" ∈ z_tbl := z_at (k := 252) (by decide +kernel) rfl
theorem fl_Fl_31 : Cond.fieldLink z_RFl 31 "LongModeCore$Decoder" "opcode" "I" ∈ z_tbl := z_at (k := 116) (by decide +kernel) rfl
theorem fl_Fl_19 : Cond.fieldLink z_RFl 19 "LongModeCore$Flow" "operands" "LLongModeCore$Operands;" ∈ z_tbl := z_at (k := 253) (by decide +kernel) rfl
theorem ml_Fl_37 : Cond.methodLink z_RFl 37 y_De_registerO ∈ z_tbl := z_at (k := 577) (by decide +kernel) rfl
theorem fl_Op_15 : Cond.fieldLink z_ROp 15 "LongModeCore$Operands" "code" "LLongModeCore$Decoder;" ∈ z_tbl := z_at (k := 202) (by decide +kernel) rfl
theorem fl_Op_138 : Cond.fieldLink z_ROp 138 "LongModeCore$Decoder" "rex" "I" ∈ z_tbl := z_at (k := 109) (by decide +kernel) rfl
theorem ml_Op_119 : Cond.methodLink z_ROp 119 y_Op_isUpperByte ∈ z_tbl := z_at (k := 535) (by decide +kernel) rfl
theorem fl_Op_9 : Cond.fieldLink z_ROp 9 "LongModeCore$Operands" "state" "LLongModeCore$State;" ∈ z_tbl := z_at (k := 201) (by decide +kernel) rfl
theorem fl_Op_123 : Cond.fieldLink z_ROp 123 "LongModeCore$State" "registers" "[J" ∈ z_tbl := z_at (k := 35) (by decide +kernel) rfl
theorem kl_Ar_15 : Cond.constantLong z_RAr 15 (-1) ∈ z_tbl := z_at (k := 543) (by decide +kernel) rfl
theorem ml_Op_131 : Cond.methodLink z_ROp 131 y_Ar_maskOf ∈ z_tbl := z_at (k := 540) (by decide +kernel) rfl
theorem kl_Op_129 : Cond.constantLong z_ROp 129 (255) ∈ z_tbl := z_at (k := 539) (by decide +kernel) rfl
theorem ml_Fl_41 : Cond.methodLink z_RFl 41 y_Op_part ∈ z_tbl := z_at (k := 581) (by decide +kernel) rfl
theorem ml_Fl_47 : Cond.methodLink z_RFl 47 y_De_sizeOnStack ∈ z_tbl := z_at (k := 582) (by decide +kernel) rfl
theorem fl_Fl_9 : Cond.fieldLink z_RFl 9 "LongModeCore$Flow" "state" "LLongModeCore$State;" ∈ z_tbl := z_at (k := 251) (by decide +kernel) rfl
theorem fl_Fl_101 : Cond.fieldLink z_RFl 101 "LongModeCore$State" "registers" "[J" ∈ z_tbl := z_at (k := 32) (by decide +kernel) rfl
theorem fl_Fl_27 : Cond.fieldLink z_RFl 27 "LongModeCore$Flow" "top" "LLongModeCore$Span;" ∈ z_tbl := z_at (k := 255) (by decide +kernel) rfl
theorem fl_Sp_9 : Cond.fieldLink z_RSp 9 "LongModeCore$Span" "at" "[J" ∈ z_tbl := z_at (k := 188) (by decide +kernel) rfl
theorem ml_Sp_19 : Cond.methodLink z_RSp 19 y_Ma_min ∈ z_tbl := z_at (k := 569) (by decide +kernel) rfl
theorem fl_Sp_25 : Cond.fieldLink z_RSp 25 "LongModeCore$Span" "length" "I" ∈ z_tbl := z_at (k := 189) (by decide +kernel) rfl
theorem fl_Sp_15 : Cond.fieldLink z_RSp 15 "LongModeCore$Span" "pages" "LLongModeCore$Pages;" ∈ z_tbl := z_at (k := 187) (by decide +kernel) rfl
theorem ml_Sp_33 : Cond.methodLink z_RSp 33 y_Pa_locate ∈ z_tbl := z_at (k := 571) (by decide +kernel) rfl
theorem ml_Sp_37 : Cond.methodLink z_RSp 37 y_Pa_refusal ∈ z_tbl := z_at (k := 572) (by decide +kernel) rfl
theorem kl_Sp_31 : Cond.constantLong z_RSp 31 (4095) ∈ z_tbl := z_at (k := 570) (by decide +kernel) rfl
theorem ml_Fl_127 : Cond.methodLink z_RFl 127 y_Sp_find ∈ z_tbl := z_at (k := 587) (by decide +kernel) rfl
theorem ml_Sp_45 : Cond.methodLink z_RSp 45 y_Pa_putByte ∈ z_tbl := z_at (k := 592) (by decide +kernel) rfl
theorem ml_Fl_133 : Cond.methodLink z_RFl 133 y_Sp_put ∈ z_tbl := z_at (k := 588) (by decide +kernel) rfl
theorem ml_Fl_50 : Cond.methodLink z_RFl 50 y_Fl_push ∈ z_tbl := z_at (k := 583) (by decide +kernel) rfl
theorem ml_Fl_137 : Cond.methodLink z_RFl 137 y_Fl_findTop ∈ z_tbl := z_at (k := 597) (by decide +kernel) rfl
theorem ml_Sp_41 : Cond.methodLink z_RSp 41 y_Pa_byteAt ∈ z_tbl := z_at (k := 605) (by decide +kernel) rfl
theorem ml_Fl_140 : Cond.methodLink z_RFl 140 y_Sp_value ∈ z_tbl := z_at (k := 601) (by decide +kernel) rfl
theorem kl_Op_136 : Cond.constantLong z_ROp 136 (-1) ∈ z_tbl := z_at (k := 611) (by decide +kernel) rfl
theorem kl_Op_134 : Cond.constantLong z_ROp 134 (-65281) ∈ z_tbl := z_at (k := 610) (by decide +kernel) rfl
theorem ml_Fl_141 : Cond.methodLink z_RFl 141 y_Op_putPart ∈ z_tbl := z_at (k := 606) (by decide +kernel) rfl
theorem ml_Fl_54 : Cond.methodLink z_RFl 54 y_Fl_popRegister ∈ z_tbl := z_at (k := 593) (by decide +kernel) rfl
theorem fl_Fl_23 : Cond.fieldLink z_RFl 23 "LongModeCore$Flow" "arithmetic" "LLongModeCore$Arithmetic;" ∈ z_tbl := z_at (k := 254) (by decide +kernel) rfl
theorem fl_Ar_9 : Cond.fieldLink z_RAr 9 "LongModeCore$Arithmetic" "state" "LLongModeCore$State;" ∈ z_tbl := z_at (k := 222) (by decide +kernel) rfl
theorem fl_Ar_17 : Cond.fieldLink z_RAr 17 "LongModeCore$State" "flags" "I" ∈ z_tbl := z_at (k := 52) (by decide +kernel) rfl
theorem ml_Fl_58 : Cond.methodLink z_RFl 58 y_Ar_holds ∈ z_tbl := z_at (k := 612) (by decide +kernel) rfl
theorem fl_Fl_64 : Cond.fieldLink z_RFl 64 "LongModeCore$Decoder" "onward" "J" ∈ z_tbl := z_at (k := 136) (by decide +kernel) rfl
theorem fl_Fl_68 : Cond.fieldLink z_RFl 68 "LongModeCore$Decoder" "number" "J" ∈ z_tbl := z_at (k := 134) (by decide +kernel) rfl
theorem ml_Fl_121 : Cond.methodLink z_RFl 121 y_Pa_isWrong ∈ z_tbl := z_at (k := 620) (by decide +kernel) rfl
theorem ml_Fl_71 : Cond.methodLink z_RFl 71 y_Fl_jump ∈ z_tbl := z_at (k := 616) (by decide +kernel) rfl
theorem fl_Fl_75 : Cond.fieldLink z_RFl 75 "LongModeCore$Decoder" "mod" "I" ∈ z_tbl := z_at (k := 125) (by decide +kernel) rfl
theorem fl_Op_31 : Cond.fieldLink z_ROp 31 "LongModeCore$Decoder" "mod" "I" ∈ z_tbl := z_at (k := 123) (by decide +kernel) rfl
theorem fl_Op_19 : Cond.fieldLink z_ROp 19 "LongModeCore$Operands" "span" "LLongModeCore$Span;" ∈ z_tbl := z_at (k := 203) (by decide +kernel) rfl
theorem ml_Op_112 : Cond.methodLink z_ROp 112 y_Sp_put ∈ z_tbl := z_at (k := 637) (by decide +kernel) rfl
theorem ml_Op_98 : Cond.methodLink z_ROp 98 y_De_registerE ∈ z_tbl := z_at (k := 635) (by decide +kernel) rfl
theorem fl_Op_27 : Cond.fieldLink z_ROp 27 "LongModeCore$Operands" "bytes" "I" ∈ z_tbl := z_at (k := 204) (by decide +kernel) rfl
theorem ml_Op_108 : Cond.methodLink z_ROp 108 y_Op_putPart ∈ z_tbl := z_at (k := 636) (by decide +kernel) rfl
theorem ml_Fl_153 : Cond.methodLink z_RFl 153 y_Op_put ∈ z_tbl := z_at (k := 631) (by decide +kernel) rfl
theorem fl_De_158 : Cond.fieldLink z_RDe 158 "LongModeCore$State" "registers" "[J" ∈ z_tbl := z_at (k := 36) (by decide +kernel) rfl
theorem ml_Fl_145 : Cond.methodLink z_RFl 145 y_De_placeOfE ∈ z_tbl := z_at (k := 629) (by decide +kernel) rfl
theorem ml_Op_55 : Cond.methodLink z_ROp 55 y_De_hasStackBase ∈ z_tbl := z_at (k := 557) (by decide +kernel) rfl
theorem ml_Op_61 : Cond.methodLink z_ROp 61 y_Sp_find ∈ z_tbl := z_at (k := 565) (by decide +kernel) rfl
theorem fl_Op_36 : Cond.fieldLink z_ROp 36 "LongModeCore$Decoder" "opcode" "I" ∈ z_tbl := z_at (k := 121) (by decide +kernel) rfl
theorem fl_Op_79 : Cond.fieldLink z_ROp 79 "LongModeCore$Decoder" "reg" "I" ∈ z_tbl := z_at (k := 129) (by decide +kernel) rfl
theorem ml_Op_58 : Cond.methodLink z_ROp 58 y_Op_isOnStack ∈ z_tbl := z_at (k := 561) (by decide +kernel) rfl
theorem ml_Fl_149 : Cond.methodLink z_RFl 149 y_Op_openAt ∈ z_tbl := z_at (k := 630) (by decide +kernel) rfl
theorem ml_Fl_81 : Cond.methodLink z_RFl 81 y_Fl_popMemory ∈ z_tbl := z_at (k := 625) (by decide +kernel) rfl
theorem ml_Fl_78 : Cond.methodLink z_RFl 78 y_De_registerE ∈ z_tbl := z_at (k := 621) (by decide +kernel) rfl
theorem fl_Fl_84 : Cond.fieldLink z_RFl 84 "LongModeCore$State" "flags" "I" ∈ z_tbl := z_at (k := 50) (by decide +kernel) rfl
theorem ml_Fl_89 : Cond.methodLink z_RFl 89 y_Fl_popFlags ∈ z_tbl := z_at (k := 638) (by decide +kernel) rfl
theorem kl_Fl_154 : Cond.constantLong z_RFl 154 (8) ∈ z_tbl := z_at (k := 646) (by decide +kernel) rfl
theorem kl_Fl_156 : Cond.constantLong z_RFl 156 (65535) ∈ z_tbl := z_at (k := 647) (by decide +kernel) rfl
theorem ml_Fl_92 : Cond.methodLink z_RFl 92 y_Fl_comeBack ∈ z_tbl := z_at (k := 642) (by decide +kernel) rfl
theorem ml_Fl_95 : Cond.methodLink z_RFl 95 y_Fl_leave ∈ z_tbl := z_at (k := 648) (by decide +kernel) rfl
theorem ml_Fl_98 : Cond.methodLink z_RFl 98 y_Fl_countDown ∈ z_tbl := z_at (k := 652) (by decide +kernel) rfl
theorem ml_Fl_105 : Cond.methodLink z_RFl 105 y_Fl_call ∈ z_tbl := z_at (k := 656) (by decide +kernel) rfl
theorem fl_Fl_108 : Cond.fieldLink z_RFl 108 "LongModeCore$Decoder" "reg" "I" ∈ z_tbl := z_at (k := 127) (by decide +kernel) rfl
theorem ml_Op_105 : Cond.methodLink z_ROp 105 y_Sp_value ∈ z_tbl := z_at (k := 664) (by decide +kernel) rfl
theorem ml_Op_101 : Cond.methodLink z_ROp 101 y_Op_part ∈ z_tbl := z_at (k := 531) (by decide +kernel) rfl
theorem ml_Fl_111 : Cond.methodLink z_RFl 111 y_Op_value ∈ z_tbl := z_at (k := 660) (by decide +kernel) rfl
theorem fl_Fl_158 : Cond.fieldLink z_RFl 158 "LongModeCore$State" "entry" "J" ∈ z_tbl := z_at (k := 43) (by decide +kernel) rfl
theorem fl_Fl_161 : Cond.fieldLink z_RFl 161 "LongModeCore$State" "mask" "J" ∈ z_tbl := z_at (k := 45) (by decide +kernel) rfl
theorem fl_Fl_164 : Cond.fieldLink z_RFl 164 "LongModeCore$State" "user" "Z" ∈ z_tbl := z_at (k := 59) (by decide +kernel) rfl
theorem ml_Fl_115 : Cond.methodLink z_RFl 115 y_Fl_enterSystem ∈ z_tbl := z_at (k := 665) (by decide +kernel) rfl
theorem ml_Fl_118 : Cond.methodLink z_RFl 118 y_Fl_leaveSystem ∈ z_tbl := z_at (k := 669) (by decide +kernel) rfl
theorem ml_Co_147 : Cond.methodLink z_RCo 147 y_Fl_execute ∈ z_tbl := z_at (k := 573) (by decide +kernel) rfl
theorem fl_Co_156 : Cond.fieldLink z_RCo 156 "LongModeCore$Decoder" "onward" "J" ∈ z_tbl := z_at (k := 139) (by decide +kernel) rfl
theorem fl_Co_151 : Cond.fieldLink z_RCo 151 "LongModeCore$Decoder" "opcode" "I" ∈ z_tbl := z_at (k := 122) (by decide +kernel) rfl
theorem fl_Co_88 : Cond.fieldLink z_RCo 88 "LongModeCore" "twoByte" "LLongModeCore$TwoByte;" ∈ z_tbl := z_at (k := 340) (by decide +kernel) rfl
theorem fl_Tw_9 : Cond.fieldLink z_RTw 9 "LongModeCore$TwoByte" "code" "LLongModeCore$Decoder;" ∈ z_tbl := z_at (k := 320) (by decide +kernel) rfl
theorem fl_Tw_27 : Cond.fieldLink z_RTw 27 "LongModeCore$Decoder" "opcode" "I" ∈ z_tbl := z_at (k := 119) (by decide +kernel) rfl
theorem fl_Tw_19 : Cond.fieldLink z_RTw 19 "LongModeCore$TwoByte" "arithmetic" "LLongModeCore$Arithmetic;" ∈ z_tbl := z_at (k := 322) (by decide +kernel) rfl
theorem ml_Tw_33 : Cond.methodLink z_RTw 33 y_Ar_holds ∈ z_tbl := z_at (k := 852) (by decide +kernel) rfl
theorem fl_Tw_15 : Cond.fieldLink z_RTw 15 "LongModeCore$TwoByte" "operands" "LLongModeCore$Operands;" ∈ z_tbl := z_at (k := 321) (by decide +kernel) rfl
theorem fl_Tw_95 : Cond.fieldLink z_RTw 95 "LongModeCore$Operands" "bytes" "I" ∈ z_tbl := z_at (k := 205) (by decide +kernel) rfl
theorem ml_Op_116 : Cond.methodLink z_ROp 116 y_De_registerG ∈ z_tbl := z_at (k := 527) (by decide +kernel) rfl
theorem ml_Tw_60 : Cond.methodLink z_RTw 60 y_Op_g ∈ z_tbl := z_at (k := 858) (by decide +kernel) rfl
theorem ml_Tw_88 : Cond.methodLink z_RTw 88 y_Op_putG ∈ z_tbl := z_at (k := 859) (by decide +kernel) rfl
theorem ml_Tw_75 : Cond.methodLink z_RTw 75 y_Op_value ∈ z_tbl := z_at (k := 857) (by decide +kernel) rfl
theorem ml_Tw_39 : Cond.methodLink z_RTw 39 y_Tw_moveIf ∈ z_tbl := z_at (k := 853) (by decide +kernel) rfl
theorem ml_Tw_43 : Cond.methodLink z_RTw 43 y_Op_put ∈ z_tbl := z_at (k := 860) (by decide +kernel) rfl
theorem ml_Tw_56 : Cond.methodLink z_RTw 56 y_De_sizeV ∈ z_tbl := z_at (k := 865) (by decide +kernel) rfl
theorem ml_Tw_109 : Cond.methodLink z_RTw 109 y_De_registerO ∈ z_tbl := z_at (k := 866) (by decide +kernel) rfl
theorem ml_Tw_112 : Cond.methodLink z_RTw 112 y_Op_part ∈ z_tbl := z_at (k := 867) (by decide +kernel) rfl
theorem ml_Tw_118 : Cond.methodLink z_RTw 118 y_Op_putPart ∈ z_tbl := z_at (k := 869) (by decide +kernel) rfl
theorem kl_Tw_116 : Cond.constantLong z_RTw 116 (255) ∈ z_tbl := z_at (k := 868) (by decide +kernel) rfl
theorem ml_Tw_49 : Cond.methodLink z_RTw 49 y_Tw_turnBytes ∈ z_tbl := z_at (k := 861) (by decide +kernel) rfl
theorem kl_Tw_122 : Cond.constantLong z_RTw 122 (8) ∈ z_tbl := z_at (k := 878) (by decide +kernel) rfl
theorem fl_Ar_23 : Cond.fieldLink z_RAr 23 "LongModeCore$State" "undefined" "J" ∈ z_tbl := z_at (k := 46) (by decide +kernel) rfl
theorem ml_Tw_124 : Cond.methodLink z_RTw 124 y_Ar_settle ∈ z_tbl := z_at (k := 879) (by decide +kernel) rfl
theorem kl_Tw_128 : Cond.constantLong z_RTw 128 (-1) ∈ z_tbl := z_at (k := 880) (by decide +kernel) rfl
theorem ml_Tw_64 : Cond.methodLink z_RTw 64 y_Tw_useBit ∈ z_tbl := z_at (k := 874) (by decide +kernel) rfl
theorem fl_Tw_23 : Cond.fieldLink z_RTw 23 "LongModeCore$TwoByte" "wide" "LLongModeCore$Wide;" ∈ z_tbl := z_at (k := 323) (by decide +kernel) rfl
theorem ml_Wi_32 : Cond.methodLink z_RWi 32 y_Ar_maskOf ∈ z_tbl := z_at (k := 749) (by decide +kernel) rfl
theorem fl_Wi_15 : Cond.fieldLink z_RWi 15 "LongModeCore$Wide" "low" "J" ∈ z_tbl := z_at (k := 233) (by decide +kernel) rfl
theorem fl_Wi_23 : Cond.fieldLink z_RWi 23 "LongModeCore$Wide" "high" "J" ∈ z_tbl := z_at (k := 236) (by decide +kernel) rfl
theorem fl_Wi_9 : Cond.fieldLink z_RWi 9 "LongModeCore$Wide" "arithmetic" "LLongModeCore$Arithmetic;" ∈ z_tbl := z_at (k := 232) (by decide +kernel) rfl
theorem ml_Wi_36 : Cond.methodLink z_RWi 36 y_Ar_settle ∈ z_tbl := z_at (k := 750) (by decide +kernel) rfl
theorem ml_Wi_26 : Cond.methodLink z_RWi 26 y_Ar_signed ∈ z_tbl := z_at (k := 748) (by decide +kernel) rfl
theorem kl_Wi_40 : Cond.constantLong z_RWi 40 (4294967295) ∈ z_tbl := z_at (k := 747) (by decide +kernel) rfl
theorem ml_Wi_19 : Cond.methodLink z_RWi 19 y_Wi_upperHalf ∈ z_tbl := z_at (k := 744) (by decide +kernel) rfl
theorem ml_Tw_79 : Cond.methodLink z_RTw 79 y_Wi_multiply ∈ z_tbl := z_at (k := 881) (by decide +kernel) rfl
theorem fl_Tw_85 : Cond.fieldLink z_RTw 85 "LongModeCore$Wide" "low" "J" ∈ z_tbl := z_at (k := 234) (by decide +kernel) rfl
theorem ki_Ar_27 : Cond.constant z_RAr 27 (38505) ∈ z_tbl := z_at (k := 700) (by decide +kernel) rfl
theorem ml_Ar_28 : Cond.methodLink z_RAr 28 y_Ar_flagsOf ∈ z_tbl := z_at (k := 697) (by decide +kernel) rfl
theorem ml_Ar_32 : Cond.methodLink z_RAr 32 y_Ar_settle ∈ z_tbl := z_at (k := 701) (by decide +kernel) rfl
theorem ml_Ar_36 : Cond.methodLink z_RAr 36 y_Ar_maskOf ∈ z_tbl := z_at (k := 705) (by decide +kernel) rfl
theorem ml_Ar_40 : Cond.methodLink z_RAr 40 y_Ar_settleSum ∈ z_tbl := z_at (k := 693) (by decide +kernel) rfl
theorem ml_Tw_142 : Cond.methodLink z_RTw 142 y_Ar_difference ∈ z_tbl := z_at (k := 886) (by decide +kernel) rfl
theorem ml_Tw_92 : Cond.methodLink z_RTw 92 y_Tw_compareAndChange ∈ z_tbl := z_at (k := 882) (by decide +kernel) rfl
theorem fl_Tw_68 : Cond.fieldLink z_RTw 68 "LongModeCore$Decoder" "reg" "I" ∈ z_tbl := z_at (k := 128) (by decide +kernel) rfl
theorem fl_Tw_71 : Cond.fieldLink z_RTw 71 "LongModeCore$Decoder" "number" "J" ∈ z_tbl := z_at (k := 135) (by decide +kernel) rfl
theorem kl_Lo_314 : Cond.constantLong z_RLo 314 (6148914691236517205) ∈ z_tbl := z_at (k := 898) (by decide +kernel) rfl
theorem kl_Lo_316 : Cond.constantLong z_RLo 316 (3689348814741910323) ∈ z_tbl := z_at (k := 899) (by decide +kernel) rfl
theorem kl_Lo_318 : Cond.constantLong z_RLo 318 (1085102592571150095) ∈ z_tbl := z_at (k := 900) (by decide +kernel) rfl
theorem ml_Tw_137 : Cond.methodLink z_RTw 137 y_Lo_bitCount ∈ z_tbl := z_at (k := 895) (by decide +kernel) rfl
theorem ml_Tw_134 : Cond.methodLink z_RTw 134 y_Tw_highestBit ∈ z_tbl := z_at (k := 901) (by decide +kernel) rfl
theorem ml_Tw_130 : Cond.methodLink z_RTw 130 y_Tw_lowestBit ∈ z_tbl := z_at (k := 892) (by decide +kernel) rfl
theorem ml_Tw_102 : Cond.methodLink z_RTw 102 y_Tw_findBit ∈ z_tbl := z_at (k := 888) (by decide +kernel) rfl
theorem ml_Tw_98 : Cond.methodLink z_RTw 98 y_Ar_signed ∈ z_tbl := z_at (k := 887) (by decide +kernel) rfl
theorem ml_Tw_146 : Cond.methodLink z_RTw 146 y_Ar_sum ∈ z_tbl := z_at (k := 908) (by decide +kernel) rfl
theorem ml_Tw_106 : Cond.methodLink z_RTw 106 y_Tw_changeAndAdd ∈ z_tbl := z_at (k := 904) (by decide +kernel) rfl
theorem ml_Tw_52 : Cond.methodLink z_RTw 52 y_Tw_executeSingle ∈ z_tbl := z_at (k := 870) (by decide +kernel) rfl
theorem ml_Co_155 : Cond.methodLink z_RCo 155 y_Tw_execute ∈ z_tbl := z_at (k := 848) (by decide +kernel) rfl
theorem fl_Co_79 : Cond.fieldLink z_RCo 79 "LongModeCore" "oneByte" "LLongModeCore$OneByte;" ∈ z_tbl := z_at (k := 339) (by decide +kernel) rfl
theorem fl_On_15 : Cond.fieldLink z_ROn 15 "LongModeCore$OneByte" "code" "LLongModeCore$Decoder;" ∈ z_tbl := z_at (k := 299) (by decide +kernel) rfl
theorem fl_On_31 : Cond.fieldLink z_ROn 31 "LongModeCore$Decoder" "opcode" "I" ∈ z_tbl := z_at (k := 118) (by decide +kernel) rfl
theorem ml_On_54 : Cond.methodLink z_ROn 54 y_De_sizeV ∈ z_tbl := z_at (k := 724) (by decide +kernel) rfl
theorem fl_On_19 : Cond.fieldLink z_ROn 19 "LongModeCore$OneByte" "operands" "LLongModeCore$Operands;" ∈ z_tbl := z_at (k := 300) (by decide +kernel) rfl
theorem ml_On_78 : Cond.methodLink z_ROn 78 y_Op_part ∈ z_tbl := z_at (k := 725) (by decide +kernel) rfl
theorem ml_On_40 : Cond.methodLink z_ROn 40 y_De_registerO ∈ z_tbl := z_at (k := 726) (by decide +kernel) rfl
theorem ml_On_48 : Cond.methodLink z_ROn 48 y_Op_putPart ∈ z_tbl := z_at (k := 727) (by decide +kernel) rfl
theorem ml_On_99 : Cond.methodLink z_ROn 99 y_De_hasB ∈ z_tbl := z_at (k := 720) (by decide +kernel) rfl
theorem ml_On_37 : Cond.methodLink z_ROn 37 y_On_changePlacesWithA ∈ z_tbl := z_at (k := 716) (by decide +kernel) rfl
theorem fl_On_44 : Cond.fieldLink z_ROn 44 "LongModeCore$Decoder" "number" "J" ∈ z_tbl := z_at (k := 132) (by decide +kernel) rfl
theorem fl_On_139 : Cond.fieldLink z_ROn 139 "LongModeCore$Operands" "bytes" "I" ∈ z_tbl := z_at (k := 206) (by decide +kernel) rfl
theorem ml_On_82 : Cond.methodLink z_ROn 82 y_Op_value ∈ z_tbl := z_at (k := 732) (by decide +kernel) rfl
theorem fl_On_64 : Cond.fieldLink z_ROn 64 "LongModeCore$Decoder" "reg" "I" ∈ z_tbl := z_at (k := 126) (by decide +kernel) rfl
theorem fl_On_23 : Cond.fieldLink z_ROn 23 "LongModeCore$OneByte" "arithmetic" "LLongModeCore$Arithmetic;" ∈ z_tbl := z_at (k := 301) (by decide +kernel) rfl
theorem ml_On_112 : Cond.methodLink z_ROn 112 y_Ar_logic ∈ z_tbl := z_at (k := 733) (by decide +kernel) rfl
theorem fl_On_27 : Cond.fieldLink z_ROn 27 "LongModeCore$OneByte" "wide" "LLongModeCore$Wide;" ∈ z_tbl := z_at (k := 302) (by decide +kernel) rfl
theorem kl_Wi_52 : Cond.constantLong z_RWi 52 (-9223372036854775808) ∈ z_tbl := z_at (k := 768) (by decide +kernel) rfl
theorem ml_Wi_44 : Cond.methodLink z_RWi 44 y_Wi_isBelow ∈ z_tbl := z_at (k := 765) (by decide +kernel) rfl
theorem ml_Wi_48 : Cond.methodLink z_RWi 48 y_Wi_divideMagnitudes ∈ z_tbl := z_at (k := 769) (by decide +kernel) rfl
theorem kl_Wi_42 : Cond.constantLong z_RWi 42 (-1) ∈ z_tbl := z_at (k := 764) (by decide +kernel) rfl
theorem ml_On_164 : Cond.methodLink z_ROn 164 y_Wi_divide ∈ z_tbl := z_at (k := 760) (by decide +kernel) rfl
theorem fl_On_109 : Cond.fieldLink z_ROn 109 "LongModeCore$Wide" "low" "J" ∈ z_tbl := z_at (k := 235) (by decide +kernel) rfl
theorem fl_On_168 : Cond.fieldLink z_ROn 168 "LongModeCore$Wide" "high" "J" ∈ z_tbl := z_at (k := 237) (by decide +kernel) rfl
theorem ml_On_155 : Cond.methodLink z_ROn 155 y_On_putHalves ∈ z_tbl := z_at (k := 751) (by decide +kernel) rfl
theorem fl_On_9 : Cond.fieldLink z_ROn 9 "LongModeCore$OneByte" "state" "LLongModeCore$State;" ∈ z_tbl := z_at (k := 298) (by decide +kernel) rfl
theorem fl_On_135 : Cond.fieldLink z_ROn 135 "LongModeCore$State" "registers" "[J" ∈ z_tbl := z_at (k := 34) (by decide +kernel) rfl
theorem kl_On_162 : Cond.constantLong z_ROn 162 (255) ∈ z_tbl := z_at (k := 759) (by decide +kernel) rfl
theorem ml_On_158 : Cond.methodLink z_ROn 158 y_On_divideBy ∈ z_tbl := z_at (k := 755) (by decide +kernel) rfl
theorem kl_On_149 : Cond.constantLong z_ROn 149 (-1) ∈ z_tbl := z_at (k := 737) (by decide +kernel) rfl
theorem ml_On_95 : Cond.methodLink z_ROn 95 y_Op_put ∈ z_tbl := z_at (k := 738) (by decide +kernel) rfl
theorem ml_On_151 : Cond.methodLink z_ROn 151 y_Ar_difference ∈ z_tbl := z_at (k := 739) (by decide +kernel) rfl
theorem ml_On_103 : Cond.methodLink z_ROn 103 y_Wi_multiply ∈ z_tbl := z_at (k := 740) (by decide +kernel) rfl
theorem ml_On_57 : Cond.methodLink z_ROn 57 y_On_executeByReg ∈ z_tbl := z_at (k := 728) (by decide +kernel) rfl
theorem ml_On_67 : Cond.methodLink z_ROn 67 y_On_sizeByOpcode ∈ z_tbl := z_at (k := 777) (by decide +kernel) rfl
theorem ml_On_91 : Cond.methodLink z_ROn 91 y_Op_putG ∈ z_tbl := z_at (k := 792) (by decide +kernel) rfl
theorem ml_On_74 : Cond.methodLink z_ROn 74 y_Op_g ∈ z_tbl := z_at (k := 781) (by decide +kernel) rfl
theorem ml_On_116 : Cond.methodLink z_ROn 116 y_On_countOfShift ∈ z_tbl := z_at (k := 800) (by decide +kernel) rfl
theorem ml_Ar_71 : Cond.methodLink z_RAr 71 y_Ar_settleRotation ∈ z_tbl := z_at (k := 812) (by decide +kernel) rfl
theorem ml_Ar_54 : Cond.methodLink z_RAr 54 y_Ar_rotate ∈ z_tbl := z_at (k := 808) (by decide +kernel) rfl
theorem ml_Ar_58 : Cond.methodLink z_RAr 58 y_Ar_rotateThroughCarry ∈ z_tbl := z_at (k := 816) (by decide +kernel) rfl
theorem ml_Ar_75 : Cond.methodLink z_RAr 75 y_Ar_settleShift ∈ z_tbl := z_at (k := 824) (by decide +kernel) rfl
theorem ml_Ar_61 : Cond.methodLink z_RAr 61 y_Ar_shiftLeft ∈ z_tbl := z_at (k := 820) (by decide +kernel) rfl
theorem ml_Ar_65 : Cond.methodLink z_RAr 65 y_Ar_shiftRight ∈ z_tbl := z_at (k := 828) (by decide +kernel) rfl
theorem ml_Ar_79 : Cond.methodLink z_RAr 79 y_Ar_signed ∈ z_tbl := z_at (k := 836) (by decide +kernel) rfl
theorem ml_Ar_82 : Cond.methodLink z_RAr 82 y_Ma_min ∈ z_tbl := z_at (k := 837) (by decide +kernel) rfl
theorem ml_Ar_68 : Cond.methodLink z_RAr 68 y_Ar_shiftSigned ∈ z_tbl := z_at (k := 832) (by decide +kernel) rfl
theorem ml_On_119 : Cond.methodLink z_ROn 119 y_Ar_shift ∈ z_tbl := z_at (k := 804) (by decide +kernel) rfl
theorem fl_On_127 : Cond.fieldLink z_ROn 127 "LongModeCore$State" "flags" "I" ∈ z_tbl := z_at (k := 54) (by decide +kernel) rfl
theorem ml_Ar_47 : Cond.methodLink z_RAr 47 y_Ar_difference ∈ z_tbl := z_at (k := 791) (by decide +kernel) rfl
theorem ml_Ar_44 : Cond.methodLink z_RAr 44 y_Ar_sum ∈ z_tbl := z_at (k := 786) (by decide +kernel) rfl
theorem ml_On_123 : Cond.methodLink z_ROn 123 y_Ar_neighbour ∈ z_tbl := z_at (k := 838) (by decide +kernel) rfl
theorem ml_On_142 : Cond.methodLink z_ROn 142 y_Ar_signed ∈ z_tbl := z_at (k := 846) (by decide +kernel) rfl
theorem ml_On_145 : Cond.methodLink z_ROn 145 y_De_placeOfE ∈ z_tbl := z_at (k := 847) (by decide +kernel) rfl
theorem ml_On_132 : Cond.methodLink z_ROn 132 y_On_move ∈ z_tbl := z_at (k := 842) (by decide +kernel) rfl
theorem ml_On_70 : Cond.methodLink z_ROn 70 y_On_executeSingle ∈ z_tbl := z_at (k := 796) (by decide +kernel) rfl
theorem ml_Ar_50 : Cond.methodLink z_RAr 50 y_Ar_logic ∈ z_tbl := z_at (k := 790) (by decide +kernel) rfl
theorem ml_On_86 : Cond.methodLink z_ROn 86 y_Ar_combine ∈ z_tbl := z_at (k := 782) (by decide +kernel) rfl
theorem ml_On_60 : Cond.methodLink z_ROn 60 y_On_combine ∈ z_tbl := z_at (k := 773) (by decide +kernel) rfl
theorem ml_Co_154 : Cond.methodLink z_RCo 154 y_On_execute ∈ z_tbl := z_at (k := 712) (by decide +kernel) rfl
theorem fl_Co_70 : Cond.fieldLink z_RCo 70 "LongModeCore" "strings" "LLongModeCore$Strings;" ∈ z_tbl := z_at (k := 338) (by decide +kernel) rfl
theorem fl_Sr_15 : Cond.fieldLink z_RSr 15 "LongModeCore$Strings" "code" "LLongModeCore$Decoder;" ∈ z_tbl := z_at (k := 274) (by decide +kernel) rfl
theorem fl_Sr_34 : Cond.fieldLink z_RSr 34 "LongModeCore$Decoder" "opcode" "I" ∈ z_tbl := z_at (k := 117) (by decide +kernel) rfl
theorem fl_Sr_40 : Cond.fieldLink z_RSr 40 "LongModeCore$Decoder" "repeat" "I" ∈ z_tbl := z_at (k := 114) (by decide +kernel) rfl
theorem ml_Sr_49 : Cond.methodLink z_RSr 49 y_De_sizeV ∈ z_tbl := z_at (k := 677) (by decide +kernel) rfl
theorem fl_Sr_19 : Cond.fieldLink z_RSr 19 "LongModeCore$Strings" "operands" "LLongModeCore$Operands;" ∈ z_tbl := z_at (k := 275) (by decide +kernel) rfl
theorem ml_Sr_81 : Cond.methodLink z_RSr 81 y_Op_part ∈ z_tbl := z_at (k := 684) (by decide +kernel) rfl
theorem fl_Sr_23 : Cond.fieldLink z_RSr 23 "LongModeCore$Strings" "arithmetic" "LLongModeCore$Arithmetic;" ∈ z_tbl := z_at (k := 276) (by decide +kernel) rfl
theorem fl_Sr_31 : Cond.fieldLink z_RSr 31 "LongModeCore$Strings" "goal" "LLongModeCore$Span;" ∈ z_tbl := z_at (k := 278) (by decide +kernel) rfl
theorem ml_Sr_77 : Cond.methodLink z_RSr 77 y_Sp_value ∈ z_tbl := z_at (k := 683) (by decide +kernel) rfl
theorem ml_Sr_91 : Cond.methodLink z_RSr 91 y_Ar_difference ∈ z_tbl := z_at (k := 689) (by decide +kernel) rfl
theorem ml_Sr_97 : Cond.methodLink z_RSr 97 y_Op_putPart ∈ z_tbl := z_at (k := 706) (by decide +kernel) rfl
theorem ml_Sr_100 : Cond.methodLink z_RSr 100 y_Sp_put ∈ z_tbl := z_at (k := 707) (by decide +kernel) rfl
theorem ml_Sr_87 : Cond.methodLink z_RSr 87 y_Sr_use ∈ z_tbl := z_at (k := 685) (by decide +kernel) rfl
theorem fl_Sr_9 : Cond.fieldLink z_RSr 9 "LongModeCore$Strings" "state" "LLongModeCore$State;" ∈ z_tbl := z_at (k := 273) (by decide +kernel) rfl
theorem fl_Sr_68 : Cond.fieldLink z_RSr 68 "LongModeCore$State" "flags" "I" ∈ z_tbl := z_at (k := 51) (by decide +kernel) rfl
theorem fl_Sr_43 : Cond.fieldLink z_RSr 43 "LongModeCore$State" "registers" "[J" ∈ z_tbl := z_at (k := 31) (by decide +kernel) rfl
theorem fl_Sr_27 : Cond.fieldLink z_RSr 27 "LongModeCore$Strings" "source" "LLongModeCore$Span;" ∈ z_tbl := z_at (k := 277) (by decide +kernel) rfl
theorem ml_Sr_71 : Cond.methodLink z_RSr 71 y_Sp_find ∈ z_tbl := z_at (k := 682) (by decide +kernel) rfl
theorem ml_Sr_53 : Cond.methodLink z_RSr 53 y_Sr_executeOnce ∈ z_tbl := z_at (k := 678) (by decide +kernel) rfl
theorem ml_Sr_57 : Cond.methodLink z_RSr 57 y_Sr_goesOn ∈ z_tbl := z_at (k := 708) (by decide +kernel) rfl
theorem fl_Sr_61 : Cond.fieldLink z_RSr 61 "LongModeCore$State" "next" "J" ∈ z_tbl := z_at (k := 38) (by decide +kernel) rfl
theorem fl_Sr_65 : Cond.fieldLink z_RSr 65 "LongModeCore$Decoder" "onward" "J" ∈ z_tbl := z_at (k := 138) (by decide +kernel) rfl
theorem ml_Co_150 : Cond.methodLink z_RCo 150 y_Sr_execute ∈ z_tbl := z_at (k := 673) (by decide +kernel) rfl
theorem fl_Co_44 : Cond.fieldLink z_RCo 44 "LongModeCore" "operands" "LLongModeCore$Operands;" ∈ z_tbl := z_at (k := 336) (by decide +kernel) rfl
theorem ml_Op_67 : Cond.methodLink z_ROp 67 y_De_sizeV ∈ z_tbl := z_at (k := 509) (by decide +kernel) rfl
theorem ml_Op_70 : Cond.methodLink z_ROp 70 y_Ma_min ∈ z_tbl := z_at (k := 510) (by decide +kernel) rfl
theorem ml_Op_76 : Cond.methodLink z_ROp 76 y_De_sizeOnStack ∈ z_tbl := z_at (k := 511) (by decide +kernel) rfl
theorem ml_Op_23 : Cond.methodLink z_ROp 23 y_Op_bytesOfE ∈ z_tbl := z_at (k := 505) (by decide +kernel) rfl
theorem ml_Op_39 : Cond.methodLink z_ROp 39 y_De_placeOfE ∈ z_tbl := z_at (k := 515) (by decide +kernel) rfl
theorem ml_Op_82 : Cond.methodLink z_ROp 82 y_Op_g ∈ z_tbl := z_at (k := 523) (by decide +kernel) rfl
theorem ml_Op_86 : Cond.methodLink z_ROp 86 y_Ar_signed ∈ z_tbl := z_at (k := 544) (by decide +kernel) rfl
theorem kl_Op_92 : Cond.constantLong z_ROp 92 (8) ∈ z_tbl := z_at (k := 545) (by decide +kernel) rfl
theorem ml_Op_94 : Cond.methodLink z_ROp 94 y_Ma_floorDiv ∈ z_tbl := z_at (k := 546) (by decide +kernel) rfl
theorem ml_Op_43 : Cond.methodLink z_ROp 43 y_Op_bitDistance ∈ z_tbl := z_at (k := 519) (by decide +kernel) rfl
theorem ml_Op_47 : Cond.methodLink z_ROp 47 y_Op_isWritten ∈ z_tbl := z_at (k := 549) (by decide +kernel) rfl
theorem ml_Op_51 : Cond.methodLink z_ROp 51 y_Op_openAt ∈ z_tbl := z_at (k := 553) (by decide +kernel) rfl
theorem ml_Co_144 : Cond.methodLink z_RCo 144 y_Op_open ∈ z_tbl := z_at (k := 501) (by decide +kernel) rfl
theorem fl_Mo_28 : Cond.fieldLink z_RMo 28 "LongModeCoreModel" "refused" "I" ∈ z_tbl := z_at (k := 941) (by decide +kernel) rfl
theorem fl_Mo_103 : Cond.fieldLink z_RMo 103 "LongModeCoreModel" "waits" "I" ∈ z_tbl := z_at (k := 944) (by decide +kernel) rfl
theorem fl_Mo_229 : Cond.fieldLink z_RMo 229 "LongModeCoreModel" "oldUser" "Z" ∈ z_tbl := z_at (k := 938) (by decide +kernel) rfl
theorem fl_Mo_108 : Cond.fieldLink z_RMo 108 "LongModeCoreModel" "length" "I" ∈ z_tbl := z_at (k := 946) (by decide +kernel) rfl
theorem fl_Mo_121 : Cond.fieldLink z_RMo 121 "LongModeCoreModel" "rex" "I" ∈ z_tbl := z_at (k := 950) (by decide +kernel) rfl
theorem fl_Mo_124 : Cond.fieldLink z_RMo 124 "LongModeCoreModel" "repeat" "I" ∈ z_tbl := z_at (k := 951) (by decide +kernel) rfl
theorem fl_Mo_127 : Cond.fieldLink z_RMo 127 "LongModeCoreModel" "small" "Z" ∈ z_tbl := z_at (k := 956) (by decide +kernel) rfl
theorem ml_Mo_77 : Cond.methodLink z_RMo 77 y_Mo_isWrong ∈ z_tbl := z_at (k := 1064) (by decide +kernel) rfl
theorem fl_Mo_39 : Cond.fieldLink z_RMo 39 "LongModeCoreModel" "lies" "[J" ∈ z_tbl := z_at (k := 945) (by decide +kernel) rfl
theorem ml_Mo_56 : Cond.methodLink z_RMo 56 y_Mo_bits ∈ z_tbl := z_at (k := 1071) (by decide +kernel) rfl
theorem fl_Mo_68 : Cond.fieldLink z_RMo 68 "LongModeCoreModel" "lookCode" "I" ∈ z_tbl := z_at (k := 936) (by decide +kernel) rfl
theorem kl_Mo_71 : Cond.constantLong z_RMo 71 (-1) ∈ z_tbl := z_at (k := 1085) (by decide +kernel) rfl
theorem kl_Mo_73 : Cond.constantLong z_RMo 73 (2) ∈ z_tbl := z_at (k := 1086) (by decide +kernel) rfl
theorem ml_Mo_85 : Cond.methodLink z_RMo 85 y_Mo_find ∈ z_tbl := z_at (k := 1067) (by decide +kernel) rfl
theorem ml_Mo_81 : Cond.methodLink z_RMo 81 y_Mo_refuse ∈ z_tbl := z_at (k := 1056) (by decide +kernel) rfl
theorem ml_Mo_95 : Cond.methodLink z_RMo 95 y_Mo_lookUp ∈ z_tbl := z_at (k := 1060) (by decide +kernel) rfl
theorem ml_Mo_114 : Cond.methodLink z_RMo 114 y_Mo_fetch ∈ z_tbl := z_at (k := 1052) (by decide +kernel) rfl
theorem fl_Mo_130 : Cond.fieldLink z_RMo 130 "LongModeCoreModel" "two" "Z" ∈ z_tbl := z_at (k := 958) (by decide +kernel) rfl
theorem fl_Mo_133 : Cond.fieldLink z_RMo 133 "LongModeCoreModel" "opcode" "I" ∈ z_tbl := z_at (k := 955) (by decide +kernel) rfl
theorem ml_Mo_232 : Cond.methodLink z_RMo 232 y_Mo_open ∈ z_tbl := z_at (k := 1048) (by decide +kernel) rfl
theorem fl_Mo_173 : Cond.fieldLink z_RMo 173 "LongModeCoreModel" "goes" "J" ∈ z_tbl := z_at (k := 960) (by decide +kernel) rfl
theorem fl_Mo_25 : Cond.fieldLink z_RMo 25 "LongModeCoreModel" "oldFlag" "[Z" ∈ z_tbl := z_at (k := 940) (by decide +kernel) rfl
theorem fl_Mo_18 : Cond.fieldLink z_RMo 18 "LongModeCoreModel" "old" "[J" ∈ z_tbl := z_at (k := 928) (by decide +kernel) rfl
theorem fl_Mo_32 : Cond.fieldLink z_RMo 32 "LongModeCoreModel" "waitAt" "[J" ∈ z_tbl := z_at (k := 942) (by decide +kernel) rfl
theorem fl_Mo_35 : Cond.fieldLink z_RMo 35 "LongModeCoreModel" "waitByte" "[I" ∈ z_tbl := z_at (k := 943) (by decide +kernel) rfl
theorem ml_Mo_235 : Cond.methodLink z_RMo 235 y_Mo_wide ∈ z_tbl := z_at (k := 1088) (by decide +kernel) rfl
theorem fl_Mo_136 : Cond.fieldLink z_RMo 136 "LongModeCoreModel" "mod" "I" ∈ z_tbl := z_at (k := 947) (by decide +kernel) rfl
theorem fl_Mo_139 : Cond.fieldLink z_RMo 139 "LongModeCoreModel" "reg" "I" ∈ z_tbl := z_at (k := 948) (by decide +kernel) rfl
theorem fl_Mo_142 : Cond.fieldLink z_RMo 142 "LongModeCoreModel" "rm" "I" ∈ z_tbl := z_at (k := 949) (by decide +kernel) rfl
theorem ml_Mo_167 : Cond.methodLink z_RMo 167 y_Mo_takeMod ∈ z_tbl := z_at (k := 1100) (by decide +kernel) rfl
theorem fl_Mo_145 : Cond.fieldLink z_RMo 145 "LongModeCoreModel" "base" "I" ∈ z_tbl := z_at (k := 953) (by decide +kernel) rfl
theorem fl_Mo_148 : Cond.fieldLink z_RMo 148 "LongModeCoreModel" "index" "I" ∈ z_tbl := z_at (k := 954) (by decide +kernel) rfl
theorem fl_Mo_151 : Cond.fieldLink z_RMo 151 "LongModeCoreModel" "relative" "Z" ∈ z_tbl := z_at (k := 957) (by decide +kernel) rfl
theorem fl_Mo_154 : Cond.fieldLink z_RMo 154 "LongModeCoreModel" "displacement" "J" ∈ z_tbl := z_at (k := 959) (by decide +kernel) rfl
theorem fl_Mo_161 : Cond.fieldLink z_RMo 161 "LongModeCoreModel" "scale" "I" ∈ z_tbl := z_at (k := 952) (by decide +kernel) rfl
theorem ml_Mo_157 : Cond.methodLink z_RMo 157 y_Mo_plus ∈ z_tbl := z_at (k := 1108) (by decide +kernel) rfl
theorem ml_Mo_118 : Cond.methodLink z_RMo 118 y_Mo_extended ∈ z_tbl := z_at (k := 1116) (by decide +kernel) rfl
theorem ml_Mo_164 : Cond.methodLink z_RMo 164 y_Mo_fetchNumber ∈ z_tbl := z_at (k := 1112) (by decide +kernel) rfl
theorem ml_Mo_170 : Cond.methodLink z_RMo 170 y_Mo_takePlace ∈ z_tbl := z_at (k := 1104) (by decide +kernel) rfl
theorem ml_Mo_335 : Cond.methodLink z_RMo 335 y_Mo_takeOperand ∈ z_tbl := z_at (k := 1096) (by decide +kernel) rfl
theorem ml_Mo_370 : Cond.methodLink z_RMo 370 y_Mo_four ∈ z_tbl := z_at (k := 1224) (by decide +kernel) rfl
theorem ml_Mo_373 : Cond.methodLink z_RMo 373 y_Mo_number ∈ z_tbl := z_at (k := 1168) (by decide +kernel) rfl
theorem kl_Mo_106 : Cond.constantLong z_RMo 106 (255) ∈ z_tbl := z_at (k := 1131) (by decide +kernel) rfl
theorem ml_Mo_180 : Cond.methodLink z_RMo 180 y_Mo_lowest ∈ z_tbl := z_at (k := 1132) (by decide +kernel) rfl
theorem ml_Mo_193 : Cond.methodLink z_RMo 193 y_Mo_place ∈ z_tbl := z_at (k := 1135) (by decide +kernel) rfl
theorem ml_Mo_197 : Cond.methodLink z_RMo 197 y_Mo_ofStack ∈ z_tbl := z_at (k := 1139) (by decide +kernel) rfl
theorem ml_Mo_99 : Cond.methodLink z_RMo 99 y_Mo_held ∈ z_tbl := z_at (k := 1143) (by decide +kernel) rfl
theorem ml_Mo_176 : Cond.methodLink z_RMo 176 y_Mo_isHigh ∈ z_tbl := z_at (k := 1127) (by decide +kernel) rfl
theorem ml_Mo_185 : Cond.methodLink z_RMo 185 y_Mo_get8 ∈ z_tbl := z_at (k := 1123) (by decide +kernel) rfl
theorem ml_Mo_338 : Cond.methodLink z_RMo 338 y_Mo_e ∈ z_tbl := z_at (k := 1119) (by decide +kernel) rfl
theorem ml_Mo_212 : Cond.methodLink z_RMo 212 y_Mo_top ∈ z_tbl := z_at (k := 1255) (by decide +kernel) rfl
theorem ml_Mo_216 : Cond.methodLink z_RMo 216 y_Mo_result ∈ z_tbl := z_at (k := 1251) (by decide +kernel) rfl
theorem ml_Mo_225 : Cond.methodLink z_RMo 225 y_Mo_add ∈ z_tbl := z_at (k := 1247) (by decide +kernel) rfl
theorem ml_Mo_208 : Cond.methodLink z_RMo 208 y_Mo_undefinedBit ∈ z_tbl := z_at (k := 1216) (by decide +kernel) rfl
theorem ml_Mo_219 : Cond.methodLink z_RMo 219 y_Mo_leave ∈ z_tbl := z_at (k := 1212) (by decide +kernel) rfl
theorem ml_Mo_222 : Cond.methodLink z_RMo 222 y_Mo_logic ∈ z_tbl := z_at (k := 1282) (by decide +kernel) rfl
theorem ml_Mo_376 : Cond.methodLink z_RMo 376 y_Mo_reckon ∈ z_tbl := z_at (k := 1278) (by decide +kernel) rfl
theorem ml_Mo_201 : Cond.methodLink z_RMo 201 y_Mo_hold ∈ z_tbl := z_at (k := 1180) (by decide +kernel) rfl
theorem kl_Mo_183 : Cond.constantLong z_RMo 183 (-65281) ∈ z_tbl := z_at (k := 1163) (by decide +kernel) rfl
theorem ml_Mo_189 : Cond.methodLink z_RMo 189 y_Mo_put8 ∈ z_tbl := z_at (k := 1159) (by decide +kernel) rfl
theorem ml_Mo_348 : Cond.methodLink z_RMo 348 y_Mo_setE ∈ z_tbl := z_at (k := 1176) (by decide +kernel) rfl
theorem ml_Mo_259 : Cond.methodLink z_RMo 259 y_Mo_group ∈ z_tbl := z_at (k := 1306) (by decide +kernel) rfl
theorem fl_Mo_412 : Cond.fieldLink z_RMo 412 "LongModeCoreModel" "went" "Z" ∈ z_tbl := z_at (k := 963) (by decide +kernel) rfl
theorem ml_Mo_419 : Cond.methodLink z_RMo 419 y_Mo_rightBy ∈ z_tbl := z_at (k := 1338) (by decide +kernel) rfl
theorem ml_Mo_415 : Cond.methodLink z_RMo 415 y_Mo_leftBy ∈ z_tbl := z_at (k := 1334) (by decide +kernel) rfl
theorem ml_Mo_409 : Cond.methodLink z_RMo 409 y_Mo_shifted ∈ z_tbl := z_at (k := 1342) (by decide +kernel) rfl
theorem ml_Mo_406 : Cond.methodLink z_RMo 406 y_Mo_rotated ∈ z_tbl := z_at (k := 1330) (by decide +kernel) rfl
theorem ml_Mo_274 : Cond.methodLink z_RMo 274 y_Mo_shift ∈ z_tbl := z_at (k := 1326) (by decide +kernel) rfl
theorem fl_Mo_383 : Cond.fieldLink z_RMo 383 "LongModeCoreModel" "high" "J" ∈ z_tbl := z_at (k := 962) (by decide +kernel) rfl
theorem fl_Mo_380 : Cond.fieldLink z_RMo 380 "LongModeCoreModel" "low" "J" ∈ z_tbl := z_at (k := 961) (by decide +kernel) rfl
theorem kl_Mo_401 : Cond.constantLong z_RMo 401 (-9223372036854775808) ∈ z_tbl := z_at (k := 1366) (by decide +kernel) rfl
theorem ml_Mo_403 : Cond.methodLink z_RMo 403 y_Mo_quotient ∈ z_tbl := z_at (k := 1362) (by decide +kernel) rfl
theorem ml_Mo_390 : Cond.methodLink z_RMo 390 y_Mo_turnSign ∈ z_tbl := z_at (k := 1235) (by decide +kernel) rfl
theorem ml_Mo_442 : Cond.methodLink z_RMo 442 y_Mo_divide ∈ z_tbl := z_at (k := 1358) (by decide +kernel) rfl
theorem ml_Mo_386 : Cond.methodLink z_RMo 386 y_Mo_multiply ∈ z_tbl := z_at (k := 1231) (by decide +kernel) rfl
theorem ml_Mo_396 : Cond.methodLink z_RMo 396 y_Mo_muchFlags ∈ z_tbl := z_at (k := 1239) (by decide +kernel) rfl
theorem ml_Mo_393 : Cond.methodLink z_RMo 393 y_Mo_multiplySigned ∈ z_tbl := z_at (k := 1227) (by decide +kernel) rfl
theorem ml_Mo_438 : Cond.methodLink z_RMo 438 y_Mo_multiplyOperand ∈ z_tbl := z_at (k := 1354) (by decide +kernel) rfl
theorem ml_Mo_280 : Cond.methodLink z_RMo 280 y_Mo_unary ∈ z_tbl := z_at (k := 1350) (by decide +kernel) rfl
theorem ml_Mo_310 : Cond.methodLink z_RMo 310 y_Mo_push ∈ z_tbl := z_at (k := 1294) (by decide +kernel) rfl
theorem ml_Mo_431 : Cond.methodLink z_RMo 431 y_Mo_jump ∈ z_tbl := z_at (k := 1172) (by decide +kernel) rfl
theorem ml_Mo_307 : Cond.methodLink z_RMo 307 y_Mo_stackSize ∈ z_tbl := z_at (k := 1290) (by decide +kernel) rfl
theorem ml_Mo_283 : Cond.methodLink z_RMo 283 y_Mo_more ∈ z_tbl := z_at (k := 1367) (by decide +kernel) rfl
theorem ml_Mo_292 : Cond.methodLink z_RMo 292 y_Mo_pushNumber ∈ z_tbl := z_at (k := 1375) (by decide +kernel) rfl
theorem ml_Mo_344 : Cond.methodLink z_RMo 344 y_Mo_setG ∈ z_tbl := z_at (k := 1155) (by decide +kernel) rfl
theorem ml_Mo_341 : Cond.methodLink z_RMo 341 y_Mo_g ∈ z_tbl := z_at (k := 1151) (by decide +kernel) rfl
theorem ml_Mo_295 : Cond.methodLink z_RMo 295 y_Mo_product ∈ z_tbl := z_at (k := 1220) (by decide +kernel) rfl
theorem ml_Mo_320 : Cond.methodLink z_RMo 320 y_Mo_testNumber ∈ z_tbl := z_at (k := 1387) (by decide +kernel) rfl
theorem ml_Mo_434 : Cond.methodLink z_RMo 434 y_Mo_load ∈ z_tbl := z_at (k := 1302) (by decide +kernel) rfl
theorem ml_Mo_313 : Cond.methodLink z_RMo 313 y_Mo_pop ∈ z_tbl := z_at (k := 1298) (by decide +kernel) rfl
theorem ml_Mo_323 : Cond.methodLink z_RMo 323 y_Mo_returns ∈ z_tbl := z_at (k := 1391) (by decide +kernel) rfl
theorem ml_Mo_326 : Cond.methodLink z_RMo 326 y_Mo_moveNumber ∈ z_tbl := z_at (k := 1395) (by decide +kernel) rfl
theorem ml_Mo_332 : Cond.methodLink z_RMo 332 y_Mo_far ∈ z_tbl := z_at (k := 1403) (by decide +kernel) rfl
theorem ml_Mo_329 : Cond.methodLink z_RMo 329 y_Mo_leaveFrame ∈ z_tbl := z_at (k := 1399) (by decide +kernel) rfl
theorem ml_Mo_301 : Cond.methodLink z_RMo 301 y_Mo_popOperand ∈ z_tbl := z_at (k := 1383) (by decide +kernel) rfl
theorem ml_Mo_298 : Cond.methodLink z_RMo 298 y_Mo_address ∈ z_tbl := z_at (k := 1379) (by decide +kernel) rfl
theorem ml_Mo_289 : Cond.methodLink z_RMo 289 y_Mo_extend ∈ z_tbl := z_at (k := 1258) (by decide +kernel) rfl
theorem ml_Mo_286 : Cond.methodLink z_RMo 286 y_Mo_others ∈ z_tbl := z_at (k := 1371) (by decide +kernel) rfl
theorem ml_Mo_277 : Cond.methodLink z_RMo 277 y_Mo_loop ∈ z_tbl := z_at (k := 1346) (by decide +kernel) rfl
theorem ml_Mo_271 : Cond.methodLink z_RMo 271 y_Mo_immediate ∈ z_tbl := z_at (k := 1322) (by decide +kernel) rfl
theorem ml_Mo_268 : Cond.methodLink z_RMo 268 y_Mo_string ∈ z_tbl := z_at (k := 1318) (by decide +kernel) rfl
theorem ml_Mo_265 : Cond.methodLink z_RMo 265 y_Mo_turn ∈ z_tbl := z_at (k := 1314) (by decide +kernel) rfl
theorem ml_Mo_262 : Cond.methodLink z_RMo 262 y_Mo_move ∈ z_tbl := z_at (k := 1310) (by decide +kernel) rfl
theorem ml_Mo_252 : Cond.methodLink z_RMo 252 y_Mo_holds ∈ z_tbl := z_at (k := 1147) (by decide +kernel) rfl
theorem ml_Mo_255 : Cond.methodLink z_RMo 255 y_Mo_branch ∈ z_tbl := z_at (k := 1164) (by decide +kernel) rfl
theorem ml_Mo_249 : Cond.methodLink z_RMo 249 y_Mo_shortStack ∈ z_tbl := z_at (k := 1286) (by decide +kernel) rfl
theorem ml_Mo_245 : Cond.methodLink z_RMo 245 y_Mo_arithmetic ∈ z_tbl := z_at (k := 1274) (by decide +kernel) rfl
theorem ml_Mo_242 : Cond.methodLink z_RMo 242 y_Mo_first ∈ z_tbl := z_at (k := 1270) (by decide +kernel) rfl
theorem ml_Mo_354 : Cond.methodLink z_RMo 354 y_Mo_system ∈ z_tbl := z_at (k := 1188) (by decide +kernel) rfl
theorem ml_Mo_422 : Cond.methodLink z_RMo 422 y_Ma_floorMod ∈ z_tbl := z_at (k := 1208) (by decide +kernel) rfl
theorem ml_Mo_428 : Cond.methodLink z_RMo 428 y_Ma_floorDiv ∈ z_tbl := z_at (k := 1211) (by decide +kernel) rfl
theorem ml_Mo_358 : Cond.methodLink z_RMo 358 y_Mo_bit ∈ z_tbl := z_at (k := 1204) (by decide +kernel) rfl
theorem ml_Mo_361 : Cond.methodLink z_RMo 361 y_Mo_compareAndChange ∈ z_tbl := z_at (k := 1243) (by decide +kernel) rfl
theorem ml_Mo_364 : Cond.methodLink z_RMo 364 y_Mo_scan ∈ z_tbl := z_at (k := 1262) (by decide +kernel) rfl
theorem ml_Mo_367 : Cond.methodLink z_RMo 367 y_Mo_addAndChange ∈ z_tbl := z_at (k := 1266) (by decide +kernel) rfl
theorem ml_Mo_351 : Cond.methodLink z_RMo 351 y_Mo_turnRound ∈ z_tbl := z_at (k := 1184) (by decide +kernel) rfl
theorem ml_Mo_238 : Cond.methodLink z_RMo 238 y_Mo_second ∈ z_tbl := z_at (k := 1092) (by decide +kernel) rfl
theorem ml_Co_159 : Cond.methodLink z_RCo 159 y_Co_step ∈ z_tbl := z_at (k := 913) (by decide +kernel) rfl
theorem ml_Mo_466 : Cond.methodLink z_RMo 466 y_Mo_step ∈ z_tbl := z_at (k := 1436) (by decide +kernel) rfl
theorem ml_Co_162 : Cond.methodLink z_RCo 162 y_Pa_locate ∈ z_tbl := z_at (k := 918) (by decide +kernel) rfl
theorem kl_Mo_469 : Cond.constantLong z_RMo 469 (-2) ∈ z_tbl := z_at (k := 1441) (by decide +kernel) rfl
theorem fl_St_7 : Cond.fieldLink z_RSt 7 "LongModeCore$State" "registers" "[J" ∈ z_tbl := z_at (k := 30) (by decide +kernel) rfl
theorem ml_Co_11 : Cond.methodLink z_RCo 11 y_St_init ∈ z_tbl := z_at (k := 26) (by decide +kernel) rfl
theorem ml_Co_18 : Cond.methodLink z_RCo 18 y_Pa_init ∈ z_tbl := z_at (k := 84) (by decide +kernel) rfl
theorem ml_Co_27 : Cond.methodLink z_RCo 27 y_De_init ∈ z_tbl := z_at (k := 97) (by decide +kernel) rfl
theorem ml_Co_38 : Cond.methodLink z_RCo 38 y_Sp_init ∈ z_tbl := z_at (k := 183) (by decide +kernel) rfl
theorem ml_Co_41 : Cond.methodLink z_RCo 41 y_Op_init ∈ z_tbl := z_at (k := 197) (by decide +kernel) rfl
theorem ml_Co_50 : Cond.methodLink z_RCo 50 y_Ar_init ∈ z_tbl := z_at (k := 218) (by decide +kernel) rfl
theorem ml_Co_53 : Cond.methodLink z_RCo 53 y_Wi_init ∈ z_tbl := z_at (k := 228) (by decide +kernel) rfl
theorem ml_Co_58 : Cond.methodLink z_RCo 58 y_Fl_init ∈ z_tbl := z_at (k := 247) (by decide +kernel) rfl
theorem ml_Co_67 : Cond.methodLink z_RCo 67 y_Sr_init ∈ z_tbl := z_at (k := 269) (by decide +kernel) rfl
theorem ml_Co_76 : Cond.methodLink z_RCo 76 y_On_init ∈ z_tbl := z_at (k := 294) (by decide +kernel) rfl
theorem ml_Co_85 : Cond.methodLink z_RCo 85 y_Tw_init ∈ z_tbl := z_at (k := 316) (by decide +kernel) rfl
theorem ki_Mo_7 : Cond.constant z_RMo 7 (32768) ∈ z_tbl := z_at (k := 925) (by decide +kernel) rfl
set_option maxRecDepth 100000 in
theorem mw_Pa_putByte : z_mw y_Pa_putByte z_RPa 6 z_TPa 2 b_Pa_putByte 7 none 2 := ⟨rfl, z_at (k := 363) (by decide +kernel) rfl, z_at (k := 364) (by decide +kernel) rfl, z_at (k := 3) (by decide +kernel) rfl, z_at (k := 365) rfl rfl, by decide +kernel⟩
set_option maxRecDepth 100000 in
theorem mw_Pa_byteAt : z_mw y_Pa_byteAt z_RPa 6 z_TPa 2 b_Pa_byteAt 4 (some .int) 1 := ⟨rfl, z_at (k := 375) (by decide +kernel) rfl, z_at (k := 376) (by decide +kernel) rfl, z_at (k := 3) (by decide +kernel) rfl, z_at (k := 377) rfl rfl, by decide +kernel⟩
set_option maxRecDepth 100000 in
theorem mw_Mo_byteAt : z_mw y_Mo_byteAt z_RMo 12 z_TMo 38 b_Mo_byteAt 3 (some .int) 1 := ⟨rfl, z_at (k := 1081) (by decide +kernel) rfl, z_ap (k := 63) (by decide +kernel) rfl, z_at (k := 13) (by decide +kernel) rfl, z_at (k := 1082) rfl rfl, by decide +kernel⟩
set_option maxRecDepth 100000 in
theorem mw_Mo_eight : z_mw y_Mo_eight z_RMo 12 z_TMo 38 b_Mo_eight 6 (some .long) 1 := ⟨rfl, z_at (k := 1077) (by decide +kernel) rfl, z_ap (k := 62) (by decide +kernel) rfl, z_at (k := 13) (by decide +kernel) rfl, z_at (k := 1078) rfl rfl, by decide +kernel⟩
set_option maxRecDepth 100000 in
theorem mw_Co_joined : z_ms y_Co_joined b_Co_joined 2 (some .long) 2 := ⟨z_at (k := 383) (by decide +kernel) rfl, z_at (k := 1) (by decide +kernel) rfl, z_at (k := 384) rfl rfl, by decide +kernel⟩
set_option maxRecDepth 100000 in
theorem mw_Mo_join : z_ms y_Mo_join b_Mo_join 2 (some .long) 2 := ⟨z_at (k := 1420) (by decide +kernel) rfl, z_at (k := 13) (by decide +kernel) rfl, z_at (k := 1421) rfl rfl, by decide +kernel⟩
set_option maxRecDepth 100000 in
theorem mw_Mo_setFlags : z_mw y_Mo_setFlags z_RMo 12 z_TMo 38 b_Mo_setFlags 3 none 1 := ⟨rfl, z_at (k := 1202) (by decide +kernel) rfl, z_ap (k := 89) (by decide +kernel) rfl, z_at (k := 13) (by decide +kernel) rfl, z_at (k := 1203) rfl rfl, by decide +kernel⟩
set_option maxRecDepth 100000 in
theorem mw_Mo_flags : z_mw y_Mo_flags z_RMo 12 z_TMo 38 b_Mo_flags 1 (some .long) 0 := ⟨rfl, z_at (k := 1194) (by decide +kernel) rfl, z_ap (k := 88) (by decide +kernel) rfl, z_at (k := 13) (by decide +kernel) rfl, z_at (k := 1195) rfl rfl, by decide +kernel⟩
set_option maxRecDepth 100000 in
theorem mw_Pa_isWrong : z_ms y_Pa_isWrong b_Pa_isWrong 4 (some .boolean) 1 := ⟨z_at (k := 417) (by decide +kernel) rfl, z_at (k := 3) (by decide +kernel) rfl, z_at (k := 418) rfl rfl, by decide +kernel⟩
set_option maxRecDepth 100000 in
theorem mw_Pa_isForbidden : z_mw y_Pa_isForbidden z_RPa 6 z_TPa 2 b_Pa_isForbidden 6 (some .boolean) 3 := ⟨rfl, z_at (k := 437) (by decide +kernel) rfl, z_ap (k := 3) (by decide +kernel) rfl, z_at (k := 3) (by decide +kernel) rfl, z_at (k := 438) rfl rfl, by decide +kernel⟩
set_option maxRecDepth 100000 in
theorem mw_Pa_refused : z_mw y_Pa_refused z_RPa 6 z_TPa 2 b_Pa_refused 6 (some .long) 2 := ⟨rfl, z_at (k := 424) (by decide +kernel) rfl, z_ap (k := 2) (by decide +kernel) rfl, z_at (k := 3) (by decide +kernel) rfl, z_at (k := 425) rfl rfl, by decide +kernel⟩
set_option maxRecDepth 100000 in
theorem mw_Pa_locate : z_mw y_Pa_locate z_RPa 6 z_TPa 2 b_Pa_locate 17 (some .long) 2 := ⟨rfl, z_at (k := 413) (by decide +kernel) rfl, z_at (k := 414) (by decide +kernel) rfl, z_at (k := 3) (by decide +kernel) rfl, z_at (k := 415) rfl rfl, by decide +kernel⟩
set_option maxRecDepth 100000 in
theorem mw_Pa_refusal : z_mw y_Pa_refusal z_RPa 6 z_TPa 2 b_Pa_refusal 6 (some .int) 3 := ⟨rfl, z_at (k := 440) (by decide +kernel) rfl, z_at (k := 441) (by decide +kernel) rfl, z_at (k := 3) (by decide +kernel) rfl, z_at (k := 442) rfl rfl, by decide +kernel⟩
set_option maxRecDepth 100000 in
theorem mw_De_fetch : z_mw y_De_fetch z_RDe 2 z_TDe 19 b_De_fetch 3 (some .int) 0 := ⟨rfl, z_at (k := 409) (by decide +kernel) rfl, z_ap (k := 1) (by decide +kernel) rfl, z_at (k := 4) (by decide +kernel) rfl, z_at (k := 410) rfl rfl, by decide +kernel⟩
set_option maxRecDepth 100000 in
theorem mw_De_isPrefix : z_ms y_De_isPrefix b_De_isPrefix 1 (some .boolean) 1 := ⟨z_at (k := 445) (by decide +kernel) rfl, z_at (k := 4) (by decide +kernel) rfl, z_at (k := 446) rfl rfl, by decide +kernel⟩
set_option maxRecDepth 100000 in
theorem mw_De_takePrefix : z_mw y_De_takePrefix z_RDe 2 z_TDe 19 b_De_takePrefix 2 none 1 := ⟨rfl, z_at (k := 449) (by decide +kernel) rfl, z_ap (k := 4) (by decide +kernel) rfl, z_at (k := 4) (by decide +kernel) rfl, z_at (k := 450) rfl rfl, by decide +kernel⟩
set_option maxRecDepth 100000 in
theorem mw_De_fetchOpcode : z_mw y_De_fetchOpcode z_RDe 2 z_TDe 19 b_De_fetchOpcode 3 (some .int) 0 := ⟨rfl, z_at (k := 405) (by decide +kernel) rfl, z_ap (k := 0) (by decide +kernel) rfl, z_at (k := 4) (by decide +kernel) rfl, z_at (k := 406) rfl rfl, by decide +kernel⟩
set_option maxRecDepth 100000 in
theorem mw_De_formOfTwo : z_ms y_De_formOfTwo b_De_formOfTwo 1 (some .int) 1 := ⟨z_at (k := 461) (by decide +kernel) rfl, z_at (k := 4) (by decide +kernel) rfl, z_at (k := 462) rfl rfl, by decide +kernel⟩
set_option maxRecDepth 100000 in
theorem mw_De_sizeV : z_mw y_De_sizeV z_RDe 2 z_TDe 19 b_De_sizeV 1 (some .int) 0 := ⟨rfl, z_at (k := 468) (by decide +kernel) rfl, z_at (k := 469) (by decide +kernel) rfl, z_at (k := 4) (by decide +kernel) rfl, z_at (k := 470) rfl rfl, by decide +kernel⟩
set_option maxRecDepth 100000 in
theorem mw_De_isToldInSize : z_mw y_De_isToldInSize z_RDe 2 z_TDe 19 b_De_isToldInSize 3 (some .boolean) 1 := ⟨rfl, z_at (k := 465) (by decide +kernel) rfl, z_ap (k := 5) (by decide +kernel) rfl, z_at (k := 4) (by decide +kernel) rfl, z_at (k := 466) rfl rfl, by decide +kernel⟩
set_option maxRecDepth 100000 in
theorem mw_Ma_min : z_ms y_Ma_min b_Ma_min 2 (some .int) 2 := ⟨z_at (k := 499) (by decide +kernel) rfl, z_at (k := 14) (by decide +kernel) rfl, z_at (k := 500) rfl rfl, by decide +kernel⟩
set_option maxRecDepth 100000 in
theorem mw_De_bytesOfNumber : z_mw y_De_bytesOfNumber z_RDe 2 z_TDe 19 b_De_bytesOfNumber 3 (some .int) 1 := ⟨rfl, z_at (k := 496) (by decide +kernel) rfl, z_ap (k := 11) (by decide +kernel) rfl, z_at (k := 4) (by decide +kernel) rfl, z_at (k := 497) rfl rfl, by decide +kernel⟩
set_option maxRecDepth 100000 in
theorem mw_Ar_signed : z_ms y_Ar_signed b_Ar_signed 4 (some .long) 2 := ⟨z_at (k := 492) (by decide +kernel) rfl, z_at (k := 7) (by decide +kernel) rfl, z_at (k := 493) rfl rfl, by decide +kernel⟩
set_option maxRecDepth 100000 in
theorem mw_De_fetchNumber : z_mw y_De_fetchNumber z_RDe 2 z_TDe 19 b_De_fetchNumber 4 (some .int) 1 := ⟨rfl, z_at (k := 489) (by decide +kernel) rfl, z_ap (k := 10) (by decide +kernel) rfl, z_at (k := 4) (by decide +kernel) rfl, z_at (k := 490) rfl rfl, by decide +kernel⟩
set_option maxRecDepth 100000 in
theorem mw_De_extension : z_mw y_De_extension z_RDe 2 z_TDe 19 b_De_extension 2 (some .int) 1 := ⟨rfl, z_at (k := 485) (by decide +kernel) rfl, z_ap (k := 9) (by decide +kernel) rfl, z_at (k := 4) (by decide +kernel) rfl, z_at (k := 486) rfl rfl, by decide +kernel⟩
set_option maxRecDepth 100000 in
theorem mw_De_fetchPlace : z_mw y_De_fetchPlace z_RDe 2 z_TDe 19 b_De_fetchPlace 3 (some .int) 0 := ⟨rfl, z_at (k := 481) (by decide +kernel) rfl, z_ap (k := 8) (by decide +kernel) rfl, z_at (k := 4) (by decide +kernel) rfl, z_at (k := 482) rfl rfl, by decide +kernel⟩
set_option maxRecDepth 100000 in
theorem mw_De_isToldWithModrm : z_mw y_De_isToldWithModrm z_RDe 2 z_TDe 19 b_De_isToldWithModrm 1 (some .boolean) 0 := ⟨rfl, z_at (k := 477) (by decide +kernel) rfl, z_ap (k := 7) (by decide +kernel) rfl, z_at (k := 4) (by decide +kernel) rfl, z_at (k := 478) rfl rfl, by decide +kernel⟩
set_option maxRecDepth 100000 in
theorem mw_De_fetchModrm : z_mw y_De_fetchModrm z_RDe 2 z_TDe 19 b_De_fetchModrm 2 (some .int) 0 := ⟨rfl, z_at (k := 473) (by decide +kernel) rfl, z_ap (k := 6) (by decide +kernel) rfl, z_at (k := 4) (by decide +kernel) rfl, z_at (k := 474) rfl rfl, by decide +kernel⟩
set_option maxRecDepth 100000 in
theorem mw_De_formOfSum : z_ms y_De_formOfSum b_De_formOfSum 1 (some .int) 1 := ⟨z_at (k := 455) (by decide +kernel) rfl, z_at (k := 4) (by decide +kernel) rfl, z_at (k := 456) rfl rfl, by decide +kernel⟩
set_option maxRecDepth 100000 in
theorem mw_De_formOfSingle : z_ms y_De_formOfSingle b_De_formOfSingle 1 (some .int) 1 := ⟨z_at (k := 458) (by decide +kernel) rfl, z_at (k := 4) (by decide +kernel) rfl, z_at (k := 459) rfl rfl, by decide +kernel⟩
set_option maxRecDepth 100000 in
theorem mw_De_formOfOne : z_ms y_De_formOfOne b_De_formOfOne 1 (some .int) 1 := ⟨z_at (k := 452) (by decide +kernel) rfl, z_at (k := 4) (by decide +kernel) rfl, z_at (k := 453) rfl rfl, by decide +kernel⟩
set_option maxRecDepth 100000 in
theorem mw_De_decode : z_mw y_De_decode z_RDe 2 z_TDe 19 b_De_decode 3 (some .int) 0 := ⟨rfl, z_at (k := 400) (by decide +kernel) rfl, z_at (k := 401) (by decide +kernel) rfl, z_at (k := 4) (by decide +kernel) rfl, z_at (k := 402) rfl rfl, by decide +kernel⟩
set_option maxRecDepth 100000 in
theorem mw_De_registerO : z_mw y_De_registerO z_RDe 2 z_TDe 19 b_De_registerO 1 (some .int) 0 := ⟨rfl, z_at (k := 578) (by decide +kernel) rfl, z_at (k := 579) (by decide +kernel) rfl, z_at (k := 4) (by decide +kernel) rfl, z_at (k := 580) rfl rfl, by decide +kernel⟩
set_option maxRecDepth 100000 in
theorem mw_Op_isUpperByte : z_mw y_Op_isUpperByte z_ROp 5 z_TOp 4 b_Op_isUpperByte 3 (some .boolean) 2 := ⟨rfl, z_at (k := 537) (by decide +kernel) rfl, z_ap (k := 14) (by decide +kernel) rfl, z_at (k := 5) (by decide +kernel) rfl, z_at (k := 538) rfl rfl, by decide +kernel⟩
set_option maxRecDepth 100000 in
theorem mw_Ar_maskOf : z_ms y_Ar_maskOf b_Ar_maskOf 1 (some .long) 1 := ⟨z_at (k := 541) (by decide +kernel) rfl, z_at (k := 7) (by decide +kernel) rfl, z_at (k := 542) rfl rfl, by decide +kernel⟩
set_option maxRecDepth 100000 in
theorem mw_Op_part : z_mw y_Op_part z_ROp 5 z_TOp 4 b_Op_part 3 (some .long) 2 := ⟨rfl, z_at (k := 532) (by decide +kernel) rfl, z_at (k := 533) (by decide +kernel) rfl, z_at (k := 5) (by decide +kernel) rfl, z_at (k := 534) rfl rfl, by decide +kernel⟩
set_option maxRecDepth 100000 in
theorem mw_De_sizeOnStack : z_mw y_De_sizeOnStack z_RDe 2 z_TDe 19 b_De_sizeOnStack 1 (some .int) 0 := ⟨rfl, z_at (k := 512) (by decide +kernel) rfl, z_at (k := 513) (by decide +kernel) rfl, z_at (k := 4) (by decide +kernel) rfl, z_at (k := 514) rfl rfl, by decide +kernel⟩
set_option maxRecDepth 100000 in
theorem mw_Sp_find : z_mw y_Sp_find z_RSp 7 z_TSp 3 b_Sp_find 9 (some .int) 4 := ⟨rfl, z_at (k := 566) (by decide +kernel) rfl, z_at (k := 567) (by decide +kernel) rfl, z_at (k := 6) (by decide +kernel) rfl, z_at (k := 568) rfl rfl, by decide +kernel⟩
set_option maxRecDepth 100000 in
theorem mw_Sp_put : z_mw y_Sp_put z_RSp 7 z_TSp 3 b_Sp_put 4 none 1 := ⟨rfl, z_at (k := 589) (by decide +kernel) rfl, z_at (k := 590) (by decide +kernel) rfl, z_at (k := 6) (by decide +kernel) rfl, z_at (k := 591) rfl rfl, by decide +kernel⟩
set_option maxRecDepth 100000 in
theorem mw_Fl_push : z_mw y_Fl_push z_RFl 3 z_TFl 5 b_Fl_push 7 (some .int) 2 := ⟨rfl, z_at (k := 585) (by decide +kernel) rfl, z_ap (k := 17) (by decide +kernel) rfl, z_at (k := 9) (by decide +kernel) rfl, z_at (k := 586) rfl rfl, by decide +kernel⟩
set_option maxRecDepth 100000 in
theorem mw_Fl_findTop : z_mw y_Fl_findTop z_RFl 3 z_TFl 5 b_Fl_findTop 2 (some .int) 1 := ⟨rfl, z_at (k := 599) (by decide +kernel) rfl, z_ap (k := 19) (by decide +kernel) rfl, z_at (k := 9) (by decide +kernel) rfl, z_at (k := 600) rfl rfl, by decide +kernel⟩
set_option maxRecDepth 100000 in
theorem mw_Sp_value : z_mw y_Sp_value z_RSp 7 z_TSp 3 b_Sp_value 4 (some .long) 0 := ⟨rfl, z_at (k := 602) (by decide +kernel) rfl, z_at (k := 603) (by decide +kernel) rfl, z_at (k := 6) (by decide +kernel) rfl, z_at (k := 604) rfl rfl, by decide +kernel⟩
set_option maxRecDepth 100000 in
theorem mw_Op_putPart : z_mw y_Op_putPart z_ROp 5 z_TOp 4 b_Op_putPart 9 none 3 := ⟨rfl, z_at (k := 607) (by decide +kernel) rfl, z_at (k := 608) (by decide +kernel) rfl, z_at (k := 5) (by decide +kernel) rfl, z_at (k := 609) rfl rfl, by decide +kernel⟩
set_option maxRecDepth 100000 in
theorem mw_Fl_popRegister : z_mw y_Fl_popRegister z_RFl 3 z_TFl 5 b_Fl_popRegister 4 (some .int) 1 := ⟨rfl, z_at (k := 595) (by decide +kernel) rfl, z_ap (k := 18) (by decide +kernel) rfl, z_at (k := 9) (by decide +kernel) rfl, z_at (k := 596) rfl rfl, by decide +kernel⟩
set_option maxRecDepth 100000 in
theorem mw_Ar_holds : z_mw y_Ar_holds z_RAr 1 z_TAr 1 b_Ar_holds 5 (some .boolean) 1 := ⟨rfl, z_at (k := 613) (by decide +kernel) rfl, z_at (k := 614) (by decide +kernel) rfl, z_at (k := 7) (by decide +kernel) rfl, z_at (k := 615) rfl rfl, by decide +kernel⟩
set_option maxRecDepth 100000 in
theorem mw_Fl_jump : z_mw y_Fl_jump z_RFl 3 z_TFl 5 b_Fl_jump 3 (some .int) 1 := ⟨rfl, z_at (k := 618) (by decide +kernel) rfl, z_ap (k := 20) (by decide +kernel) rfl, z_at (k := 9) (by decide +kernel) rfl, z_at (k := 619) rfl rfl, by decide +kernel⟩
set_option maxRecDepth 100000 in
theorem mw_De_registerE : z_mw y_De_registerE z_RDe 2 z_TDe 19 b_De_registerE 1 (some .int) 0 := ⟨rfl, z_at (k := 622) (by decide +kernel) rfl, z_at (k := 623) (by decide +kernel) rfl, z_at (k := 4) (by decide +kernel) rfl, z_at (k := 624) rfl rfl, by decide +kernel⟩
set_option maxRecDepth 100000 in
theorem mw_Op_put : z_mw y_Op_put z_ROp 5 z_TOp 4 b_Op_put 3 none 1 := ⟨rfl, z_at (k := 632) (by decide +kernel) rfl, z_at (k := 633) (by decide +kernel) rfl, z_at (k := 5) (by decide +kernel) rfl, z_at (k := 634) rfl rfl, by decide +kernel⟩
set_option maxRecDepth 100000 in
theorem mw_De_placeOfE : z_mw y_De_placeOfE z_RDe 2 z_TDe 19 b_De_placeOfE 5 (some .long) 1 := ⟨rfl, z_at (k := 516) (by decide +kernel) rfl, z_at (k := 517) (by decide +kernel) rfl, z_at (k := 4) (by decide +kernel) rfl, z_at (k := 518) rfl rfl, by decide +kernel⟩
set_option maxRecDepth 100000 in
theorem mw_De_hasStackBase : z_mw y_De_hasStackBase z_RDe 2 z_TDe 19 b_De_hasStackBase 1 (some .boolean) 0 := ⟨rfl, z_at (k := 558) (by decide +kernel) rfl, z_at (k := 559) (by decide +kernel) rfl, z_at (k := 4) (by decide +kernel) rfl, z_at (k := 560) rfl rfl, by decide +kernel⟩
set_option maxRecDepth 100000 in
theorem mw_Op_isOnStack : z_mw y_Op_isOnStack z_ROp 5 z_TOp 4 b_Op_isOnStack 1 (some .boolean) 0 := ⟨rfl, z_at (k := 563) (by decide +kernel) rfl, z_ap (k := 16) (by decide +kernel) rfl, z_at (k := 5) (by decide +kernel) rfl, z_at (k := 564) rfl rfl, by decide +kernel⟩
set_option maxRecDepth 100000 in
theorem mw_Op_openAt : z_mw y_Op_openAt z_ROp 5 z_TOp 4 b_Op_openAt 4 (some .int) 2 := ⟨rfl, z_at (k := 554) (by decide +kernel) rfl, z_at (k := 555) (by decide +kernel) rfl, z_at (k := 5) (by decide +kernel) rfl, z_at (k := 556) rfl rfl, by decide +kernel⟩
set_option maxRecDepth 100000 in
theorem mw_Fl_popMemory : z_mw y_Fl_popMemory z_RFl 3 z_TFl 5 b_Fl_popMemory 3 (some .int) 0 := ⟨rfl, z_at (k := 627) (by decide +kernel) rfl, z_ap (k := 21) (by decide +kernel) rfl, z_at (k := 9) (by decide +kernel) rfl, z_at (k := 628) rfl rfl, by decide +kernel⟩
set_option maxRecDepth 100000 in
theorem mw_Fl_popFlags : z_mw y_Fl_popFlags z_RFl 3 z_TFl 5 b_Fl_popFlags 3 (some .int) 0 := ⟨rfl, z_at (k := 640) (by decide +kernel) rfl, z_ap (k := 22) (by decide +kernel) rfl, z_at (k := 9) (by decide +kernel) rfl, z_at (k := 641) rfl rfl, by decide +kernel⟩
set_option maxRecDepth 100000 in
theorem mw_Fl_comeBack : z_mw y_Fl_comeBack z_RFl 3 z_TFl 5 b_Fl_comeBack 2 (some .int) 0 := ⟨rfl, z_at (k := 644) (by decide +kernel) rfl, z_ap (k := 23) (by decide +kernel) rfl, z_at (k := 9) (by decide +kernel) rfl, z_at (k := 645) rfl rfl, by decide +kernel⟩
set_option maxRecDepth 100000 in
theorem mw_Fl_leave : z_mw y_Fl_leave z_RFl 3 z_TFl 5 b_Fl_leave 4 (some .int) 0 := ⟨rfl, z_at (k := 650) (by decide +kernel) rfl, z_ap (k := 24) (by decide +kernel) rfl, z_at (k := 9) (by decide +kernel) rfl, z_at (k := 651) rfl rfl, by decide +kernel⟩
set_option maxRecDepth 100000 in
theorem mw_Fl_countDown : z_mw y_Fl_countDown z_RFl 3 z_TFl 5 b_Fl_countDown 6 (some .int) 0 := ⟨rfl, z_at (k := 654) (by decide +kernel) rfl, z_ap (k := 25) (by decide +kernel) rfl, z_at (k := 9) (by decide +kernel) rfl, z_at (k := 655) rfl rfl, by decide +kernel⟩
set_option maxRecDepth 100000 in
theorem mw_Fl_call : z_mw y_Fl_call z_RFl 3 z_TFl 5 b_Fl_call 4 (some .int) 1 := ⟨rfl, z_at (k := 658) (by decide +kernel) rfl, z_ap (k := 26) (by decide +kernel) rfl, z_at (k := 9) (by decide +kernel) rfl, z_at (k := 659) rfl rfl, by decide +kernel⟩
set_option maxRecDepth 100000 in
theorem mw_Op_value : z_mw y_Op_value z_ROp 5 z_TOp 4 b_Op_value 1 (some .long) 0 := ⟨rfl, z_at (k := 661) (by decide +kernel) rfl, z_at (k := 662) (by decide +kernel) rfl, z_at (k := 5) (by decide +kernel) rfl, z_at (k := 663) rfl rfl, by decide +kernel⟩
set_option maxRecDepth 100000 in
theorem mw_Fl_enterSystem : z_mw y_Fl_enterSystem z_RFl 3 z_TFl 5 b_Fl_enterSystem 1 (some .int) 0 := ⟨rfl, z_at (k := 667) (by decide +kernel) rfl, z_ap (k := 27) (by decide +kernel) rfl, z_at (k := 9) (by decide +kernel) rfl, z_at (k := 668) rfl rfl, by decide +kernel⟩
set_option maxRecDepth 100000 in
theorem mw_Fl_leaveSystem : z_mw y_Fl_leaveSystem z_RFl 3 z_TFl 5 b_Fl_leaveSystem 2 (some .int) 0 := ⟨rfl, z_at (k := 671) (by decide +kernel) rfl, z_ap (k := 28) (by decide +kernel) rfl, z_at (k := 9) (by decide +kernel) rfl, z_at (k := 672) rfl rfl, by decide +kernel⟩
set_option maxRecDepth 100000 in
theorem mw_Fl_execute : z_mw y_Fl_execute z_RFl 3 z_TFl 5 b_Fl_execute 1 (some .int) 0 := ⟨rfl, z_at (k := 574) (by decide +kernel) rfl, z_at (k := 575) (by decide +kernel) rfl, z_at (k := 9) (by decide +kernel) rfl, z_at (k := 576) rfl rfl, by decide +kernel⟩
set_option maxRecDepth 100000 in
theorem mw_De_registerG : z_mw y_De_registerG z_RDe 2 z_TDe 19 b_De_registerG 1 (some .int) 0 := ⟨rfl, z_at (k := 528) (by decide +kernel) rfl, z_at (k := 529) (by decide +kernel) rfl, z_at (k := 4) (by decide +kernel) rfl, z_at (k := 530) rfl rfl, by decide +kernel⟩
set_option maxRecDepth 100000 in
theorem mw_Op_g : z_mw y_Op_g z_ROp 5 z_TOp 4 b_Op_g 2 (some .long) 1 := ⟨rfl, z_at (k := 524) (by decide +kernel) rfl, z_at (k := 525) (by decide +kernel) rfl, z_at (k := 5) (by decide +kernel) rfl, z_at (k := 526) rfl rfl, by decide +kernel⟩
set_option maxRecDepth 100000 in
theorem mw_Op_putG : z_mw y_Op_putG z_ROp 5 z_TOp 4 b_Op_putG 4 none 2 := ⟨rfl, z_at (k := 793) (by decide +kernel) rfl, z_at (k := 794) (by decide +kernel) rfl, z_at (k := 5) (by decide +kernel) rfl, z_at (k := 795) rfl rfl, by decide +kernel⟩
set_option maxRecDepth 100000 in
theorem mw_Tw_moveIf : z_mw y_Tw_moveIf z_RTw 10 z_TTw 4 b_Tw_moveIf 3 none 1 := ⟨rfl, z_at (k := 855) (by decide +kernel) rfl, z_ap (k := 50) (by decide +kernel) rfl, z_at (k := 12) (by decide +kernel) rfl, z_at (k := 856) rfl rfl, by decide +kernel⟩
set_option maxRecDepth 100000 in
theorem mw_Tw_turnBytes : z_mw y_Tw_turnBytes z_RTw 10 z_TTw 4 b_Tw_turnBytes 7 none 0 := ⟨rfl, z_at (k := 863) (by decide +kernel) rfl, z_ap (k := 51) (by decide +kernel) rfl, z_at (k := 12) (by decide +kernel) rfl, z_at (k := 864) rfl rfl, by decide +kernel⟩
set_option maxRecDepth 100000 in
theorem mw_Ar_settle : z_mw y_Ar_settle z_RAr 1 z_TAr 1 b_Ar_settle 5 none 3 := ⟨rfl, z_at (k := 702) (by decide +kernel) rfl, z_at (k := 703) (by decide +kernel) rfl, z_at (k := 7) (by decide +kernel) rfl, z_at (k := 704) rfl rfl, by decide +kernel⟩
set_option maxRecDepth 100000 in
theorem mw_Tw_useBit : z_mw y_Tw_useBit z_RTw 10 z_TTw 4 b_Tw_useBit 9 none 2 := ⟨rfl, z_at (k := 876) (by decide +kernel) rfl, z_ap (k := 53) (by decide +kernel) rfl, z_at (k := 12) (by decide +kernel) rfl, z_at (k := 877) rfl rfl, by decide +kernel⟩
set_option maxRecDepth 100000 in
theorem mw_Wi_upperHalf : z_ms y_Wi_upperHalf b_Wi_upperHalf 16 (some .long) 2 := ⟨z_at (k := 745) (by decide +kernel) rfl, z_at (k := 8) (by decide +kernel) rfl, z_at (k := 746) rfl rfl, by decide +kernel⟩
set_option maxRecDepth 100000 in
theorem mw_Wi_multiply : z_mw y_Wi_multiply z_RWi 11 z_TWi 3 b_Wi_multiply 9 none 4 := ⟨rfl, z_at (k := 741) (by decide +kernel) rfl, z_at (k := 742) (by decide +kernel) rfl, z_at (k := 8) (by decide +kernel) rfl, z_at (k := 743) rfl rfl, by decide +kernel⟩
set_option maxRecDepth 100000 in
theorem mw_Ar_flagsOf : z_ms y_Ar_flagsOf b_Ar_flagsOf 7 (some .int) 2 := ⟨z_at (k := 698) (by decide +kernel) rfl, z_at (k := 7) (by decide +kernel) rfl, z_at (k := 699) rfl rfl, by decide +kernel⟩
set_option maxRecDepth 100000 in
theorem mw_Ar_settleSum : z_mw y_Ar_settleSum z_RAr 1 z_TAr 1 b_Ar_settleSum 10 (some .long) 4 := ⟨rfl, z_at (k := 695) (by decide +kernel) rfl, z_ap (k := 31) (by decide +kernel) rfl, z_at (k := 7) (by decide +kernel) rfl, z_at (k := 696) rfl rfl, by decide +kernel⟩
set_option maxRecDepth 100000 in
theorem mw_Ar_difference : z_mw y_Ar_difference z_RAr 1 z_TAr 1 b_Ar_difference 12 (some .long) 4 := ⟨rfl, z_at (k := 690) (by decide +kernel) rfl, z_at (k := 691) (by decide +kernel) rfl, z_at (k := 7) (by decide +kernel) rfl, z_at (k := 692) rfl rfl, by decide +kernel⟩
set_option maxRecDepth 100000 in
theorem mw_Tw_compareAndChange : z_mw y_Tw_compareAndChange z_RTw 10 z_TTw 4 b_Tw_compareAndChange 6 none 0 := ⟨rfl, z_at (k := 884) (by decide +kernel) rfl, z_ap (k := 54) (by decide +kernel) rfl, z_at (k := 12) (by decide +kernel) rfl, z_at (k := 885) rfl rfl, by decide +kernel⟩
set_option maxRecDepth 100000 in
theorem mw_Lo_bitCount : z_ms y_Lo_bitCount b_Lo_bitCount 2 (some .int) 1 := ⟨z_at (k := 896) (by decide +kernel) rfl, z_at (k := 15) (by decide +kernel) rfl, z_at (k := 897) rfl rfl, by decide +kernel⟩
set_option maxRecDepth 100000 in
theorem mw_Tw_highestBit : z_ms y_Tw_highestBit b_Tw_highestBit 5 (some .int) 1 := ⟨z_at (k := 902) (by decide +kernel) rfl, z_at (k := 12) (by decide +kernel) rfl, z_at (k := 903) rfl rfl, by decide +kernel⟩
set_option maxRecDepth 100000 in
theorem mw_Tw_lowestBit : z_ms y_Tw_lowestBit b_Tw_lowestBit 2 (some .int) 1 := ⟨z_at (k := 893) (by decide +kernel) rfl, z_at (k := 12) (by decide +kernel) rfl, z_at (k := 894) rfl rfl, by decide +kernel⟩
set_option maxRecDepth 100000 in
theorem mw_Tw_findBit : z_mw y_Tw_findBit z_RTw 10 z_TTw 4 b_Tw_findBit 5 none 3 := ⟨rfl, z_at (k := 890) (by decide +kernel) rfl, z_ap (k := 55) (by decide +kernel) rfl, z_at (k := 12) (by decide +kernel) rfl, z_at (k := 891) rfl rfl, by decide +kernel⟩
set_option maxRecDepth 100000 in
theorem mw_Ar_sum : z_mw y_Ar_sum z_RAr 1 z_TAr 1 b_Ar_sum 12 (some .long) 4 := ⟨rfl, z_at (k := 787) (by decide +kernel) rfl, z_at (k := 788) (by decide +kernel) rfl, z_at (k := 7) (by decide +kernel) rfl, z_at (k := 789) rfl rfl, by decide +kernel⟩
set_option maxRecDepth 100000 in
theorem mw_Tw_changeAndAdd : z_mw y_Tw_changeAndAdd z_RTw 10 z_TTw 4 b_Tw_changeAndAdd 6 none 0 := ⟨rfl, z_at (k := 906) (by decide +kernel) rfl, z_ap (k := 56) (by decide +kernel) rfl, z_at (k := 12) (by decide +kernel) rfl, z_at (k := 907) rfl rfl, by decide +kernel⟩
set_option maxRecDepth 100000 in
theorem mw_Tw_executeSingle : z_mw y_Tw_executeSingle z_RTw 10 z_TTw 4 b_Tw_executeSingle 3 none 1 := ⟨rfl, z_at (k := 872) (by decide +kernel) rfl, z_ap (k := 52) (by decide +kernel) rfl, z_at (k := 12) (by decide +kernel) rfl, z_at (k := 873) rfl rfl, by decide +kernel⟩
set_option maxRecDepth 100000 in
theorem mw_Tw_execute : z_mw y_Tw_execute z_RTw 10 z_TTw 4 b_Tw_execute 2 (some .int) 0 := ⟨rfl, z_at (k := 849) (by decide +kernel) rfl, z_at (k := 850) (by decide +kernel) rfl, z_at (k := 12) (by decide +kernel) rfl, z_at (k := 851) rfl rfl, by decide +kernel⟩
set_option maxRecDepth 100000 in
theorem mw_De_hasB : z_mw y_De_hasB z_RDe 2 z_TDe 19 b_De_hasB 1 (some .boolean) 0 := ⟨rfl, z_at (k := 721) (by decide +kernel) rfl, z_at (k := 722) (by decide +kernel) rfl, z_at (k := 4) (by decide +kernel) rfl, z_at (k := 723) rfl rfl, by decide +kernel⟩
set_option maxRecDepth 100000 in
theorem mw_On_changePlacesWithA : z_mw y_On_changePlacesWithA z_ROn 4 z_TOn 5 b_On_changePlacesWithA 4 none 0 := ⟨rfl, z_at (k := 718) (by decide +kernel) rfl, z_ap (k := 33) (by decide +kernel) rfl, z_at (k := 11) (by decide +kernel) rfl, z_at (k := 719) rfl rfl, by decide +kernel⟩
set_option maxRecDepth 100000 in
theorem mw_Ar_logic : z_mw y_Ar_logic z_RAr 1 z_TAr 1 b_Ar_logic 4 (some .long) 2 := ⟨rfl, z_at (k := 734) (by decide +kernel) rfl, z_at (k := 735) (by decide +kernel) rfl, z_at (k := 7) (by decide +kernel) rfl, z_at (k := 736) rfl rfl, by decide +kernel⟩
set_option maxRecDepth 100000 in
theorem mw_Wi_isBelow : z_ms y_Wi_isBelow b_Wi_isBelow 4 (some .boolean) 2 := ⟨z_at (k := 766) (by decide +kernel) rfl, z_at (k := 8) (by decide +kernel) rfl, z_at (k := 767) rfl rfl, by decide +kernel⟩
set_option maxRecDepth 100000 in
theorem mw_Wi_divideMagnitudes : z_mw y_Wi_divideMagnitudes z_RWi 11 z_TWi 3 b_Wi_divideMagnitudes 14 none 4 := ⟨rfl, z_at (k := 771) (by decide +kernel) rfl, z_ap (k := 37) (by decide +kernel) rfl, z_at (k := 8) (by decide +kernel) rfl, z_at (k := 772) rfl rfl, by decide +kernel⟩
set_option maxRecDepth 100000 in
theorem mw_Wi_divide : z_mw y_Wi_divide z_RWi 11 z_TWi 3 b_Wi_divide 22 (some .boolean) 5 := ⟨rfl, z_at (k := 761) (by decide +kernel) rfl, z_at (k := 762) (by decide +kernel) rfl, z_at (k := 8) (by decide +kernel) rfl, z_at (k := 763) rfl rfl, by decide +kernel⟩
set_option maxRecDepth 100000 in
theorem mw_On_putHalves : z_mw y_On_putHalves z_ROn 4 z_TOn 5 b_On_putHalves 2 none 1 := ⟨rfl, z_at (k := 753) (by decide +kernel) rfl, z_ap (k := 35) (by decide +kernel) rfl, z_at (k := 11) (by decide +kernel) rfl, z_at (k := 754) rfl rfl, by decide +kernel⟩
set_option maxRecDepth 100000 in
theorem mw_On_divideBy : z_mw y_On_divideBy z_ROn 4 z_TOn 5 b_On_divideBy 6 (some .int) 2 := ⟨rfl, z_at (k := 757) (by decide +kernel) rfl, z_ap (k := 36) (by decide +kernel) rfl, z_at (k := 11) (by decide +kernel) rfl, z_at (k := 758) rfl rfl, by decide +kernel⟩
set_option maxRecDepth 100000 in
theorem mw_On_executeByReg : z_mw y_On_executeByReg z_ROn 4 z_TOn 5 b_On_executeByReg 4 (some .int) 0 := ⟨rfl, z_at (k := 730) (by decide +kernel) rfl, z_ap (k := 34) (by decide +kernel) rfl, z_at (k := 11) (by decide +kernel) rfl, z_at (k := 731) rfl rfl, by decide +kernel⟩
set_option maxRecDepth 100000 in
theorem mw_On_sizeByOpcode : z_mw y_On_sizeByOpcode z_ROn 4 z_TOn 5 b_On_sizeByOpcode 1 (some .int) 0 := ⟨rfl, z_at (k := 779) (by decide +kernel) rfl, z_ap (k := 39) (by decide +kernel) rfl, z_at (k := 11) (by decide +kernel) rfl, z_at (k := 780) rfl rfl, by decide +kernel⟩
set_option maxRecDepth 100000 in
theorem mw_On_countOfShift : z_mw y_On_countOfShift z_ROn 4 z_TOn 5 b_On_countOfShift 1 (some .int) 0 := ⟨rfl, z_at (k := 802) (by decide +kernel) rfl, z_ap (k := 41) (by decide +kernel) rfl, z_at (k := 11) (by decide +kernel) rfl, z_at (k := 803) rfl rfl, by decide +kernel⟩
set_option maxRecDepth 100000 in
theorem mw_Ar_settleRotation : z_mw y_Ar_settleRotation z_RAr 1 z_TAr 1 b_Ar_settleRotation 12 none 5 := ⟨rfl, z_at (k := 814) (by decide +kernel) rfl, z_ap (k := 43) (by decide +kernel) rfl, z_at (k := 7) (by decide +kernel) rfl, z_at (k := 815) rfl rfl, by decide +kernel⟩
set_option maxRecDepth 100000 in
theorem mw_Ar_rotate : z_mw y_Ar_rotate z_RAr 1 z_TAr 1 b_Ar_rotate 10 (some .long) 4 := ⟨rfl, z_at (k := 810) (by decide +kernel) rfl, z_ap (k := 42) (by decide +kernel) rfl, z_at (k := 7) (by decide +kernel) rfl, z_at (k := 811) rfl rfl, by decide +kernel⟩
set_option maxRecDepth 100000 in
theorem mw_Ar_rotateThroughCarry : z_mw y_Ar_rotateThroughCarry z_RAr 1 z_TAr 1 b_Ar_rotateThroughCarry 17 (some .long) 4 := ⟨rfl, z_at (k := 818) (by decide +kernel) rfl, z_ap (k := 44) (by decide +kernel) rfl, z_at (k := 7) (by decide +kernel) rfl, z_at (k := 819) rfl rfl, by decide +kernel⟩
set_option maxRecDepth 100000 in
theorem mw_Ar_settleShift : z_mw y_Ar_settleShift z_RAr 1 z_TAr 1 b_Ar_settleShift 11 none 5 := ⟨rfl, z_at (k := 826) (by decide +kernel) rfl, z_ap (k := 46) (by decide +kernel) rfl, z_at (k := 7) (by decide +kernel) rfl, z_at (k := 827) rfl rfl, by decide +kernel⟩
set_option maxRecDepth 100000 in
theorem mw_Ar_shiftLeft : z_mw y_Ar_shiftLeft z_RAr 1 z_TAr 1 b_Ar_shiftLeft 10 (some .long) 3 := ⟨rfl, z_at (k := 822) (by decide +kernel) rfl, z_ap (k := 45) (by decide +kernel) rfl, z_at (k := 7) (by decide +kernel) rfl, z_at (k := 823) rfl rfl, by decide +kernel⟩
set_option maxRecDepth 100000 in
theorem mw_Ar_shiftRight : z_mw y_Ar_shiftRight z_RAr 1 z_TAr 1 b_Ar_shiftRight 7 (some .long) 3 := ⟨rfl, z_at (k := 830) (by decide +kernel) rfl, z_ap (k := 47) (by decide +kernel) rfl, z_at (k := 7) (by decide +kernel) rfl, z_at (k := 831) rfl rfl, by decide +kernel⟩
set_option maxRecDepth 100000 in
theorem mw_Ar_shiftSigned : z_mw y_Ar_shiftSigned z_RAr 1 z_TAr 1 b_Ar_shiftSigned 10 (some .long) 3 := ⟨rfl, z_at (k := 834) (by decide +kernel) rfl, z_ap (k := 48) (by decide +kernel) rfl, z_at (k := 7) (by decide +kernel) rfl, z_at (k := 835) rfl rfl, by decide +kernel⟩
set_option maxRecDepth 100000 in
theorem mw_Ar_shift : z_mw y_Ar_shift z_RAr 1 z_TAr 1 b_Ar_shift 7 (some .long) 4 := ⟨rfl, z_at (k := 805) (by decide +kernel) rfl, z_at (k := 806) (by decide +kernel) rfl, z_at (k := 7) (by decide +kernel) rfl, z_at (k := 807) rfl rfl, by decide +kernel⟩
set_option maxRecDepth 100000 in
theorem mw_Ar_neighbour : z_mw y_Ar_neighbour z_RAr 1 z_TAr 1 b_Ar_neighbour 8 (some .long) 3 := ⟨rfl, z_at (k := 839) (by decide +kernel) rfl, z_at (k := 840) (by decide +kernel) rfl, z_at (k := 7) (by decide +kernel) rfl, z_at (k := 841) rfl rfl, by decide +kernel⟩
set_option maxRecDepth 100000 in
theorem mw_On_move : z_mw y_On_move z_ROn 4 z_TOn 5 b_On_move 4 none 1 := ⟨rfl, z_at (k := 844) (by decide +kernel) rfl, z_ap (k := 49) (by decide +kernel) rfl, z_at (k := 11) (by decide +kernel) rfl, z_at (k := 845) rfl rfl, by decide +kernel⟩
set_option maxRecDepth 100000 in
theorem mw_On_executeSingle : z_mw y_On_executeSingle z_ROn 4 z_TOn 5 b_On_executeSingle 2 none 1 := ⟨rfl, z_at (k := 798) (by decide +kernel) rfl, z_ap (k := 40) (by decide +kernel) rfl, z_at (k := 11) (by decide +kernel) rfl, z_at (k := 799) rfl rfl, by decide +kernel⟩
set_option maxRecDepth 100000 in
theorem mw_Ar_combine : z_mw y_Ar_combine z_RAr 1 z_TAr 1 b_Ar_combine 9 (some .long) 4 := ⟨rfl, z_at (k := 783) (by decide +kernel) rfl, z_at (k := 784) (by decide +kernel) rfl, z_at (k := 7) (by decide +kernel) rfl, z_at (k := 785) rfl rfl, by decide +kernel⟩
set_option maxRecDepth 100000 in
theorem mw_On_combine : z_mw y_On_combine z_ROn 4 z_TOn 5 b_On_combine 10 none 2 := ⟨rfl, z_at (k := 775) (by decide +kernel) rfl, z_ap (k := 38) (by decide +kernel) rfl, z_at (k := 11) (by decide +kernel) rfl, z_at (k := 776) rfl rfl, by decide +kernel⟩
set_option maxRecDepth 100000 in
theorem mw_On_execute : z_mw y_On_execute z_ROn 4 z_TOn 5 b_On_execute 1 (some .int) 0 := ⟨rfl, z_at (k := 713) (by decide +kernel) rfl, z_at (k := 714) (by decide +kernel) rfl, z_at (k := 11) (by decide +kernel) rfl, z_at (k := 715) rfl rfl, by decide +kernel⟩
set_option maxRecDepth 100000 in
theorem mw_Sr_use : z_mw y_Sr_use z_RSr 9 z_TSr 6 b_Sr_use 5 none 3 := ⟨rfl, z_at (k := 687) (by decide +kernel) rfl, z_ap (k := 30) (by decide +kernel) rfl, z_at (k := 10) (by decide +kernel) rfl, z_at (k := 688) rfl rfl, by decide +kernel⟩
set_option maxRecDepth 100000 in
theorem mw_Sr_executeOnce : z_mw y_Sr_executeOnce z_RSr 9 z_TSr 6 b_Sr_executeOnce 9 (some .int) 2 := ⟨rfl, z_at (k := 680) (by decide +kernel) rfl, z_ap (k := 29) (by decide +kernel) rfl, z_at (k := 10) (by decide +kernel) rfl, z_at (k := 681) rfl rfl, by decide +kernel⟩
set_option maxRecDepth 100000 in
theorem mw_Sr_goesOn : z_mw y_Sr_goesOn z_RSr 9 z_TSr 6 b_Sr_goesOn 4 (some .boolean) 1 := ⟨rfl, z_at (k := 710) (by decide +kernel) rfl, z_ap (k := 32) (by decide +kernel) rfl, z_at (k := 10) (by decide +kernel) rfl, z_at (k := 711) rfl rfl, by decide +kernel⟩
set_option maxRecDepth 100000 in
theorem mw_Sr_execute : z_mw y_Sr_execute z_RSr 9 z_TSr 6 b_Sr_execute 5 (some .int) 0 := ⟨rfl, z_at (k := 674) (by decide +kernel) rfl, z_at (k := 675) (by decide +kernel) rfl, z_at (k := 10) (by decide +kernel) rfl, z_at (k := 676) rfl rfl, by decide +kernel⟩
set_option maxRecDepth 100000 in
theorem mw_Op_bytesOfE : z_mw y_Op_bytesOfE z_ROp 5 z_TOp 4 b_Op_bytesOfE 1 (some .int) 0 := ⟨rfl, z_at (k := 507) (by decide +kernel) rfl, z_ap (k := 12) (by decide +kernel) rfl, z_at (k := 5) (by decide +kernel) rfl, z_at (k := 508) rfl rfl, by decide +kernel⟩
set_option maxRecDepth 100000 in
theorem mw_Ma_floorDiv : z_ms y_Ma_floorDiv b_Ma_floorDiv 6 (some .long) 2 := ⟨z_at (k := 547) (by decide +kernel) rfl, z_at (k := 14) (by decide +kernel) rfl, z_at (k := 548) rfl rfl, by decide +kernel⟩
set_option maxRecDepth 100000 in
theorem mw_Op_bitDistance : z_mw y_Op_bitDistance z_ROp 5 z_TOp 4 b_Op_bitDistance 1 (some .long) 0 := ⟨rfl, z_at (k := 521) (by decide +kernel) rfl, z_ap (k := 13) (by decide +kernel) rfl, z_at (k := 5) (by decide +kernel) rfl, z_at (k := 522) rfl rfl, by decide +kernel⟩
set_option maxRecDepth 100000 in
theorem mw_Op_isWritten : z_mw y_Op_isWritten z_ROp 5 z_TOp 4 b_Op_isWritten 2 (some .boolean) 0 := ⟨rfl, z_at (k := 551) (by decide +kernel) rfl, z_ap (k := 15) (by decide +kernel) rfl, z_at (k := 5) (by decide +kernel) rfl, z_at (k := 552) rfl rfl, by decide +kernel⟩
set_option maxRecDepth 100000 in
theorem mw_Op_open : z_mw y_Op_open z_ROp 5 z_TOp 4 b_Op_open 1 (some .int) 0 := ⟨rfl, z_at (k := 502) (by decide +kernel) rfl, z_at (k := 503) (by decide +kernel) rfl, z_at (k := 5) (by decide +kernel) rfl, z_at (k := 504) rfl rfl, by decide +kernel⟩
set_option maxRecDepth 100000 in
theorem mw_Mo_isWrong : z_ms y_Mo_isWrong b_Mo_isWrong 5 (some .boolean) 1 := ⟨z_at (k := 1065) (by decide +kernel) rfl, z_at (k := 13) (by decide +kernel) rfl, z_at (k := 1066) rfl rfl, by decide +kernel⟩
set_option maxRecDepth 100000 in
theorem mw_Mo_bits : z_ms y_Mo_bits b_Mo_bits 4 (some .long) 3 := ⟨z_at (k := 1072) (by decide +kernel) rfl, z_at (k := 13) (by decide +kernel) rfl, z_at (k := 1073) rfl rfl, by decide +kernel⟩
set_option maxRecDepth 100000 in
theorem mw_Mo_find : z_mw y_Mo_find z_RMo 12 z_TMo 38 b_Mo_find 15 (some .long) 2 := ⟨rfl, z_at (k := 1069) (by decide +kernel) rfl, z_ap (k := 61) (by decide +kernel) rfl, z_at (k := 13) (by decide +kernel) rfl, z_at (k := 1070) rfl rfl, by decide +kernel⟩
set_option maxRecDepth 100000 in
theorem mw_Mo_refuse : z_mw y_Mo_refuse z_RMo 12 z_TMo 38 b_Mo_refuse 2 none 1 := ⟨rfl, z_at (k := 1058) (by decide +kernel) rfl, z_ap (k := 59) (by decide +kernel) rfl, z_at (k := 13) (by decide +kernel) rfl, z_at (k := 1059) rfl rfl, by decide +kernel⟩
set_option maxRecDepth 100000 in
theorem mw_Mo_lookUp : z_mw y_Mo_lookUp z_RMo 12 z_TMo 38 b_Mo_lookUp 7 none 4 := ⟨rfl, z_at (k := 1062) (by decide +kernel) rfl, z_ap (k := 60) (by decide +kernel) rfl, z_at (k := 13) (by decide +kernel) rfl, z_at (k := 1063) rfl rfl, by decide +kernel⟩
set_option maxRecDepth 100000 in
theorem mw_Mo_fetch : z_mw y_Mo_fetch z_RMo 12 z_TMo 38 b_Mo_fetch 1 (some .int) 0 := ⟨rfl, z_at (k := 1054) (by decide +kernel) rfl, z_ap (k := 58) (by decide +kernel) rfl, z_at (k := 13) (by decide +kernel) rfl, z_at (k := 1055) rfl rfl, by decide +kernel⟩
set_option maxRecDepth 100000 in
theorem mw_Mo_open : z_mw y_Mo_open z_RMo 12 z_TMo 38 b_Mo_open 2 none 0 := ⟨rfl, z_at (k := 1050) (by decide +kernel) rfl, z_ap (k := 57) (by decide +kernel) rfl, z_at (k := 13) (by decide +kernel) rfl, z_at (k := 1051) rfl rfl, by decide +kernel⟩
set_option maxRecDepth 100000 in
theorem mw_Mo_wide : z_mw y_Mo_wide z_RMo 12 z_TMo 38 b_Mo_wide 1 (some .int) 0 := ⟨rfl, z_at (k := 1090) (by decide +kernel) rfl, z_ap (k := 64) (by decide +kernel) rfl, z_at (k := 13) (by decide +kernel) rfl, z_at (k := 1091) rfl rfl, by decide +kernel⟩
set_option maxRecDepth 100000 in
theorem mw_Mo_takeMod : z_mw y_Mo_takeMod z_RMo 12 z_TMo 38 b_Mo_takeMod 2 none 0 := ⟨rfl, z_at (k := 1102) (by decide +kernel) rfl, z_ap (k := 67) (by decide +kernel) rfl, z_at (k := 13) (by decide +kernel) rfl, z_at (k := 1103) rfl rfl, by decide +kernel⟩
set_option maxRecDepth 100000 in
theorem mw_Mo_plus : z_mw y_Mo_plus z_RMo 12 z_TMo 38 b_Mo_plus 2 (some .int) 1 := ⟨rfl, z_at (k := 1110) (by decide +kernel) rfl, z_ap (k := 69) (by decide +kernel) rfl, z_at (k := 13) (by decide +kernel) rfl, z_at (k := 1111) rfl rfl, by decide +kernel⟩
set_option maxRecDepth 100000 in
theorem mw_Mo_extended : z_ms y_Mo_extended b_Mo_extended 7 (some .long) 2 := ⟨z_at (k := 1117) (by decide +kernel) rfl, z_at (k := 13) (by decide +kernel) rfl, z_at (k := 1118) rfl rfl, by decide +kernel⟩
set_option maxRecDepth 100000 in
theorem mw_Mo_fetchNumber : z_mw y_Mo_fetchNumber z_RMo 12 z_TMo 38 b_Mo_fetchNumber 5 (some .long) 1 := ⟨rfl, z_at (k := 1114) (by decide +kernel) rfl, z_ap (k := 70) (by decide +kernel) rfl, z_at (k := 13) (by decide +kernel) rfl, z_at (k := 1115) rfl rfl, by decide +kernel⟩
set_option maxRecDepth 100000 in
theorem mw_Mo_takePlace : z_mw y_Mo_takePlace z_RMo 12 z_TMo 38 b_Mo_takePlace 3 none 0 := ⟨rfl, z_at (k := 1106) (by decide +kernel) rfl, z_ap (k := 68) (by decide +kernel) rfl, z_at (k := 13) (by decide +kernel) rfl, z_at (k := 1107) rfl rfl, by decide +kernel⟩
set_option maxRecDepth 100000 in
theorem mw_Mo_takeOperand : z_mw y_Mo_takeOperand z_RMo 12 z_TMo 38 b_Mo_takeOperand 1 none 0 := ⟨rfl, z_at (k := 1098) (by decide +kernel) rfl, z_ap (k := 66) (by decide +kernel) rfl, z_at (k := 13) (by decide +kernel) rfl, z_at (k := 1099) rfl rfl, by decide +kernel⟩
set_option maxRecDepth 100000 in
theorem mw_Mo_four : z_ms y_Mo_four b_Mo_four 1 (some .int) 1 := ⟨z_at (k := 1225) (by decide +kernel) rfl, z_at (k := 13) (by decide +kernel) rfl, z_at (k := 1226) rfl rfl, by decide +kernel⟩
set_option maxRecDepth 100000 in
theorem mw_Mo_number : z_mw y_Mo_number z_RMo 12 z_TMo 38 b_Mo_number 4 (some .long) 1 := ⟨rfl, z_at (k := 1170) (by decide +kernel) rfl, z_ap (k := 82) (by decide +kernel) rfl, z_at (k := 13) (by decide +kernel) rfl, z_at (k := 1171) rfl rfl, by decide +kernel⟩
set_option maxRecDepth 100000 in
theorem mw_Mo_lowest : z_ms y_Mo_lowest b_Mo_lowest 6 (some .long) 2 := ⟨z_at (k := 1133) (by decide +kernel) rfl, z_at (k := 13) (by decide +kernel) rfl, z_at (k := 1134) rfl rfl, by decide +kernel⟩
set_option maxRecDepth 100000 in
theorem mw_Mo_place : z_mw y_Mo_place z_RMo 12 z_TMo 38 b_Mo_place 6 (some .long) 0 := ⟨rfl, z_at (k := 1137) (by decide +kernel) rfl, z_ap (k := 74) (by decide +kernel) rfl, z_at (k := 13) (by decide +kernel) rfl, z_at (k := 1138) rfl rfl, by decide +kernel⟩
set_option maxRecDepth 100000 in
theorem mw_Mo_ofStack : z_mw y_Mo_ofStack z_RMo 12 z_TMo 38 b_Mo_ofStack 1 (some .boolean) 0 := ⟨rfl, z_at (k := 1141) (by decide +kernel) rfl, z_ap (k := 75) (by decide +kernel) rfl, z_at (k := 13) (by decide +kernel) rfl, z_at (k := 1142) rfl rfl, by decide +kernel⟩
set_option maxRecDepth 100000 in
theorem mw_Mo_held : z_mw y_Mo_held z_RMo 12 z_TMo 38 b_Mo_held 5 (some .long) 1 := ⟨rfl, z_at (k := 1145) (by decide +kernel) rfl, z_ap (k := 76) (by decide +kernel) rfl, z_at (k := 13) (by decide +kernel) rfl, z_at (k := 1146) rfl rfl, by decide +kernel⟩
set_option maxRecDepth 100000 in
theorem mw_Mo_isHigh : z_mw y_Mo_isHigh z_RMo 12 z_TMo 38 b_Mo_isHigh 3 (some .boolean) 2 := ⟨rfl, z_at (k := 1129) (by decide +kernel) rfl, z_ap (k := 73) (by decide +kernel) rfl, z_at (k := 13) (by decide +kernel) rfl, z_at (k := 1130) rfl rfl, by decide +kernel⟩
set_option maxRecDepth 100000 in
theorem mw_Mo_get8 : z_mw y_Mo_get8 z_RMo 12 z_TMo 38 b_Mo_get8 3 (some .long) 2 := ⟨rfl, z_at (k := 1125) (by decide +kernel) rfl, z_ap (k := 72) (by decide +kernel) rfl, z_at (k := 13) (by decide +kernel) rfl, z_at (k := 1126) rfl rfl, by decide +kernel⟩
set_option maxRecDepth 100000 in
theorem mw_Mo_e : z_mw y_Mo_e z_RMo 12 z_TMo 38 b_Mo_e 3 (some .long) 2 := ⟨rfl, z_at (k := 1121) (by decide +kernel) rfl, z_ap (k := 71) (by decide +kernel) rfl, z_at (k := 13) (by decide +kernel) rfl, z_at (k := 1122) rfl rfl, by decide +kernel⟩
set_option maxRecDepth 100000 in
theorem mw_Mo_top : z_ms y_Mo_top b_Mo_top 3 (some .boolean) 2 := ⟨z_at (k := 1256) (by decide +kernel) rfl, z_at (k := 13) (by decide +kernel) rfl, z_at (k := 1257) rfl rfl, by decide +kernel⟩
set_option maxRecDepth 100000 in
theorem mw_Mo_result : z_mw y_Mo_result z_RMo 12 z_TMo 38 b_Mo_result 7 none 2 := ⟨rfl, z_at (k := 1253) (by decide +kernel) rfl, z_ap (k := 100) (by decide +kernel) rfl, z_at (k := 13) (by decide +kernel) rfl, z_at (k := 1254) rfl rfl, by decide +kernel⟩
set_option maxRecDepth 100000 in
theorem mw_Mo_add : z_mw y_Mo_add z_RMo 12 z_TMo 38 b_Mo_add 16 (some .long) 5 := ⟨rfl, z_at (k := 1249) (by decide +kernel) rfl, z_ap (k := 99) (by decide +kernel) rfl, z_at (k := 13) (by decide +kernel) rfl, z_at (k := 1250) rfl rfl, by decide +kernel⟩
set_option maxRecDepth 100000 in
theorem mw_Mo_undefinedBit : z_mw y_Mo_undefinedBit z_RMo 12 z_TMo 38 b_Mo_undefinedBit 2 (some .boolean) 1 := ⟨rfl, z_at (k := 1218) (by decide +kernel) rfl, z_ap (k := 92) (by decide +kernel) rfl, z_at (k := 13) (by decide +kernel) rfl, z_at (k := 1219) rfl rfl, by decide +kernel⟩
set_option maxRecDepth 100000 in
theorem mw_Mo_leave : z_mw y_Mo_leave z_RMo 12 z_TMo 38 b_Mo_leave 2 none 1 := ⟨rfl, z_at (k := 1214) (by decide +kernel) rfl, z_ap (k := 91) (by decide +kernel) rfl, z_at (k := 13) (by decide +kernel) rfl, z_at (k := 1215) rfl rfl, by decide +kernel⟩
set_option maxRecDepth 100000 in
theorem mw_Mo_logic : z_mw y_Mo_logic z_RMo 12 z_TMo 38 b_Mo_logic 4 (some .long) 2 := ⟨rfl, z_at (k := 1284) (by decide +kernel) rfl, z_ap (k := 107) (by decide +kernel) rfl, z_at (k := 13) (by decide +kernel) rfl, z_at (k := 1285) rfl rfl, by decide +kernel⟩
set_option maxRecDepth 100000 in
theorem mw_Mo_reckon : z_mw y_Mo_reckon z_RMo 12 z_TMo 38 b_Mo_reckon 8 (some .long) 4 := ⟨rfl, z_at (k := 1280) (by decide +kernel) rfl, z_ap (k := 106) (by decide +kernel) rfl, z_at (k := 13) (by decide +kernel) rfl, z_at (k := 1281) rfl rfl, by decide +kernel⟩
set_option maxRecDepth 100000 in
theorem mw_Mo_hold : z_mw y_Mo_hold z_RMo 12 z_TMo 38 b_Mo_hold 5 none 2 := ⟨rfl, z_at (k := 1182) (by decide +kernel) rfl, z_ap (k := 85) (by decide +kernel) rfl, z_at (k := 13) (by decide +kernel) rfl, z_at (k := 1183) rfl rfl, by decide +kernel⟩
set_option maxRecDepth 100000 in
theorem mw_Mo_put8 : z_mw y_Mo_put8 z_RMo 12 z_TMo 38 b_Mo_put8 5 none 3 := ⟨rfl, z_at (k := 1161) (by decide +kernel) rfl, z_ap (k := 80) (by decide +kernel) rfl, z_at (k := 13) (by decide +kernel) rfl, z_at (k := 1162) rfl rfl, by decide +kernel⟩
set_option maxRecDepth 100000 in
theorem mw_Mo_setE : z_mw y_Mo_setE z_RMo 12 z_TMo 38 b_Mo_setE 4 none 2 := ⟨rfl, z_at (k := 1178) (by decide +kernel) rfl, z_ap (k := 84) (by decide +kernel) rfl, z_at (k := 13) (by decide +kernel) rfl, z_at (k := 1179) rfl rfl, by decide +kernel⟩
set_option maxRecDepth 100000 in
theorem mw_Mo_group : z_mw y_Mo_group z_RMo 12 z_TMo 38 b_Mo_group 7 none 2 := ⟨rfl, z_at (k := 1308) (by decide +kernel) rfl, z_ap (k := 113) (by decide +kernel) rfl, z_at (k := 13) (by decide +kernel) rfl, z_at (k := 1309) rfl rfl, by decide +kernel⟩
set_option maxRecDepth 100000 in
theorem mw_Mo_rightBy : z_mw y_Mo_rightBy z_RMo 12 z_TMo 38 b_Mo_rightBy 5 (some .long) 3 := ⟨rfl, z_at (k := 1340) (by decide +kernel) rfl, z_ap (k := 121) (by decide +kernel) rfl, z_at (k := 13) (by decide +kernel) rfl, z_at (k := 1341) rfl rfl, by decide +kernel⟩
set_option maxRecDepth 100000 in
theorem mw_Mo_leftBy : z_mw y_Mo_leftBy z_RMo 12 z_TMo 38 b_Mo_leftBy 5 (some .long) 3 := ⟨rfl, z_at (k := 1336) (by decide +kernel) rfl, z_ap (k := 120) (by decide +kernel) rfl, z_at (k := 13) (by decide +kernel) rfl, z_at (k := 1337) rfl rfl, by decide +kernel⟩
set_option maxRecDepth 100000 in
theorem mw_Mo_shifted : z_mw y_Mo_shifted z_RMo 12 z_TMo 38 b_Mo_shifted 9 (some .long) 3 := ⟨rfl, z_at (k := 1344) (by decide +kernel) rfl, z_ap (k := 122) (by decide +kernel) rfl, z_at (k := 13) (by decide +kernel) rfl, z_at (k := 1345) rfl rfl, by decide +kernel⟩
set_option maxRecDepth 100000 in
theorem mw_Mo_rotated : z_mw y_Mo_rotated z_RMo 12 z_TMo 38 b_Mo_rotated 11 (some .long) 3 := ⟨rfl, z_at (k := 1332) (by decide +kernel) rfl, z_ap (k := 119) (by decide +kernel) rfl, z_at (k := 13) (by decide +kernel) rfl, z_at (k := 1333) rfl rfl, by decide +kernel⟩
set_option maxRecDepth 100000 in
theorem mw_Mo_shift : z_mw y_Mo_shift z_RMo 12 z_TMo 38 b_Mo_shift 9 none 2 := ⟨rfl, z_at (k := 1328) (by decide +kernel) rfl, z_ap (k := 118) (by decide +kernel) rfl, z_at (k := 13) (by decide +kernel) rfl, z_at (k := 1329) rfl rfl, by decide +kernel⟩
set_option maxRecDepth 100000 in
theorem mw_Mo_quotient : z_mw y_Mo_quotient z_RMo 12 z_TMo 38 b_Mo_quotient 13 (some .boolean) 2 := ⟨rfl, z_at (k := 1364) (by decide +kernel) rfl, z_ap (k := 127) (by decide +kernel) rfl, z_at (k := 13) (by decide +kernel) rfl, z_at (k := 1365) rfl rfl, by decide +kernel⟩
set_option maxRecDepth 100000 in
theorem mw_Mo_turnSign : z_mw y_Mo_turnSign z_RMo 12 z_TMo 38 b_Mo_turnSign 1 none 0 := ⟨rfl, z_at (k := 1237) (by decide +kernel) rfl, z_ap (k := 96) (by decide +kernel) rfl, z_at (k := 13) (by decide +kernel) rfl, z_at (k := 1238) rfl rfl, by decide +kernel⟩
set_option maxRecDepth 100000 in
theorem mw_Mo_divide : z_mw y_Mo_divide z_RMo 12 z_TMo 38 b_Mo_divide 22 none 3 := ⟨rfl, z_at (k := 1360) (by decide +kernel) rfl, z_ap (k := 126) (by decide +kernel) rfl, z_at (k := 13) (by decide +kernel) rfl, z_at (k := 1361) rfl rfl, by decide +kernel⟩
set_option maxRecDepth 100000 in
theorem mw_Mo_multiply : z_mw y_Mo_multiply z_RMo 12 z_TMo 38 b_Mo_multiply 13 none 2 := ⟨rfl, z_at (k := 1233) (by decide +kernel) rfl, z_ap (k := 95) (by decide +kernel) rfl, z_at (k := 13) (by decide +kernel) rfl, z_at (k := 1234) rfl rfl, by decide +kernel⟩
set_option maxRecDepth 100000 in
theorem mw_Mo_muchFlags : z_mw y_Mo_muchFlags z_RMo 12 z_TMo 38 b_Mo_muchFlags 2 none 1 := ⟨rfl, z_at (k := 1241) (by decide +kernel) rfl, z_ap (k := 97) (by decide +kernel) rfl, z_at (k := 13) (by decide +kernel) rfl, z_at (k := 1242) rfl rfl, by decide +kernel⟩
set_option maxRecDepth 100000 in
theorem mw_Mo_multiplySigned : z_mw y_Mo_multiplySigned z_RMo 12 z_TMo 38 b_Mo_multiplySigned 5 none 2 := ⟨rfl, z_at (k := 1229) (by decide +kernel) rfl, z_ap (k := 94) (by decide +kernel) rfl, z_at (k := 13) (by decide +kernel) rfl, z_at (k := 1230) rfl rfl, by decide +kernel⟩
set_option maxRecDepth 100000 in
theorem mw_Mo_multiplyOperand : z_mw y_Mo_multiplyOperand z_RMo 12 z_TMo 38 b_Mo_multiplyOperand 11 none 3 := ⟨rfl, z_at (k := 1356) (by decide +kernel) rfl, z_ap (k := 125) (by decide +kernel) rfl, z_at (k := 13) (by decide +kernel) rfl, z_at (k := 1357) rfl rfl, by decide +kernel⟩
set_option maxRecDepth 100000 in
theorem mw_Mo_unary : z_mw y_Mo_unary z_RMo 12 z_TMo 38 b_Mo_unary 4 none 1 := ⟨rfl, z_at (k := 1352) (by decide +kernel) rfl, z_ap (k := 124) (by decide +kernel) rfl, z_at (k := 13) (by decide +kernel) rfl, z_at (k := 1353) rfl rfl, by decide +kernel⟩
set_option maxRecDepth 100000 in
theorem mw_Mo_push : z_mw y_Mo_push z_RMo 12 z_TMo 38 b_Mo_push 4 none 2 := ⟨rfl, z_at (k := 1296) (by decide +kernel) rfl, z_ap (k := 110) (by decide +kernel) rfl, z_at (k := 13) (by decide +kernel) rfl, z_at (k := 1297) rfl rfl, by decide +kernel⟩
set_option maxRecDepth 100000 in
theorem mw_Mo_jump : z_mw y_Mo_jump z_RMo 12 z_TMo 38 b_Mo_jump 3 none 1 := ⟨rfl, z_at (k := 1174) (by decide +kernel) rfl, z_ap (k := 83) (by decide +kernel) rfl, z_at (k := 13) (by decide +kernel) rfl, z_at (k := 1175) rfl rfl, by decide +kernel⟩
set_option maxRecDepth 100000 in
theorem mw_Mo_stackSize : z_mw y_Mo_stackSize z_RMo 12 z_TMo 38 b_Mo_stackSize 1 (some .int) 0 := ⟨rfl, z_at (k := 1292) (by decide +kernel) rfl, z_ap (k := 109) (by decide +kernel) rfl, z_at (k := 13) (by decide +kernel) rfl, z_at (k := 1293) rfl rfl, by decide +kernel⟩
set_option maxRecDepth 100000 in
theorem mw_Mo_more : z_mw y_Mo_more z_RMo 12 z_TMo 38 b_Mo_more 7 none 1 := ⟨rfl, z_at (k := 1369) (by decide +kernel) rfl, z_ap (k := 128) (by decide +kernel) rfl, z_at (k := 13) (by decide +kernel) rfl, z_at (k := 1370) rfl rfl, by decide +kernel⟩
set_option maxRecDepth 100000 in
theorem mw_Mo_pushNumber : z_mw y_Mo_pushNumber z_RMo 12 z_TMo 38 b_Mo_pushNumber 2 none 1 := ⟨rfl, z_at (k := 1377) (by decide +kernel) rfl, z_ap (k := 130) (by decide +kernel) rfl, z_at (k := 13) (by decide +kernel) rfl, z_at (k := 1378) rfl rfl, by decide +kernel⟩
set_option maxRecDepth 100000 in
theorem mw_Mo_setG : z_mw y_Mo_setG z_RMo 12 z_TMo 38 b_Mo_setG 4 none 2 := ⟨rfl, z_at (k := 1157) (by decide +kernel) rfl, z_ap (k := 79) (by decide +kernel) rfl, z_at (k := 13) (by decide +kernel) rfl, z_at (k := 1158) rfl rfl, by decide +kernel⟩
set_option maxRecDepth 100000 in
theorem mw_Mo_g : z_mw y_Mo_g z_RMo 12 z_TMo 38 b_Mo_g 2 (some .long) 1 := ⟨rfl, z_at (k := 1153) (by decide +kernel) rfl, z_ap (k := 78) (by decide +kernel) rfl, z_at (k := 13) (by decide +kernel) rfl, z_at (k := 1154) rfl rfl, by decide +kernel⟩
set_option maxRecDepth 100000 in
theorem mw_Mo_product : z_mw y_Mo_product z_RMo 12 z_TMo 38 b_Mo_product 10 none 1 := ⟨rfl, z_at (k := 1222) (by decide +kernel) rfl, z_ap (k := 93) (by decide +kernel) rfl, z_at (k := 13) (by decide +kernel) rfl, z_at (k := 1223) rfl rfl, by decide +kernel⟩
set_option maxRecDepth 100000 in
theorem mw_Mo_testNumber : z_mw y_Mo_testNumber z_RMo 12 z_TMo 38 b_Mo_testNumber 4 none 1 := ⟨rfl, z_at (k := 1389) (by decide +kernel) rfl, z_ap (k := 133) (by decide +kernel) rfl, z_at (k := 13) (by decide +kernel) rfl, z_at (k := 1390) rfl rfl, by decide +kernel⟩
set_option maxRecDepth 100000 in
theorem mw_Mo_load : z_mw y_Mo_load z_RMo 12 z_TMo 38 b_Mo_load 5 (some .long) 3 := ⟨rfl, z_at (k := 1304) (by decide +kernel) rfl, z_ap (k := 112) (by decide +kernel) rfl, z_at (k := 13) (by decide +kernel) rfl, z_at (k := 1305) rfl rfl, by decide +kernel⟩
set_option maxRecDepth 100000 in
theorem mw_Mo_pop : z_mw y_Mo_pop z_RMo 12 z_TMo 38 b_Mo_pop 4 (some .long) 1 := ⟨rfl, z_at (k := 1300) (by decide +kernel) rfl, z_ap (k := 111) (by decide +kernel) rfl, z_at (k := 13) (by decide +kernel) rfl, z_at (k := 1301) rfl rfl, by decide +kernel⟩
set_option maxRecDepth 100000 in
theorem mw_Mo_returns : z_mw y_Mo_returns z_RMo 12 z_TMo 38 b_Mo_returns 6 none 1 := ⟨rfl, z_at (k := 1393) (by decide +kernel) rfl, z_ap (k := 134) (by decide +kernel) rfl, z_at (k := 13) (by decide +kernel) rfl, z_at (k := 1394) rfl rfl, by decide +kernel⟩
set_option maxRecDepth 100000 in
theorem mw_Mo_moveNumber : z_mw y_Mo_moveNumber z_RMo 12 z_TMo 38 b_Mo_moveNumber 4 none 1 := ⟨rfl, z_at (k := 1397) (by decide +kernel) rfl, z_ap (k := 135) (by decide +kernel) rfl, z_at (k := 13) (by decide +kernel) rfl, z_at (k := 1398) rfl rfl, by decide +kernel⟩
set_option maxRecDepth 100000 in
theorem mw_Mo_far : z_mw y_Mo_far z_RMo 12 z_TMo 38 b_Mo_far 6 none 1 := ⟨rfl, z_at (k := 1405) (by decide +kernel) rfl, z_ap (k := 137) (by decide +kernel) rfl, z_at (k := 13) (by decide +kernel) rfl, z_at (k := 1406) rfl rfl, by decide +kernel⟩
set_option maxRecDepth 100000 in
theorem mw_Mo_leaveFrame : z_mw y_Mo_leaveFrame z_RMo 12 z_TMo 38 b_Mo_leaveFrame 1 none 0 := ⟨rfl, z_at (k := 1401) (by decide +kernel) rfl, z_ap (k := 136) (by decide +kernel) rfl, z_at (k := 13) (by decide +kernel) rfl, z_at (k := 1402) rfl rfl, by decide +kernel⟩
set_option maxRecDepth 100000 in
theorem mw_Mo_popOperand : z_mw y_Mo_popOperand z_RMo 12 z_TMo 38 b_Mo_popOperand 3 none 0 := ⟨rfl, z_at (k := 1385) (by decide +kernel) rfl, z_ap (k := 132) (by decide +kernel) rfl, z_at (k := 13) (by decide +kernel) rfl, z_at (k := 1386) rfl rfl, by decide +kernel⟩
set_option maxRecDepth 100000 in
theorem mw_Mo_address : z_mw y_Mo_address z_RMo 12 z_TMo 38 b_Mo_address 1 none 0 := ⟨rfl, z_at (k := 1381) (by decide +kernel) rfl, z_ap (k := 131) (by decide +kernel) rfl, z_at (k := 13) (by decide +kernel) rfl, z_at (k := 1382) rfl rfl, by decide +kernel⟩
set_option maxRecDepth 100000 in
theorem mw_Mo_extend : z_mw y_Mo_extend z_RMo 12 z_TMo 38 b_Mo_extend 3 none 2 := ⟨rfl, z_at (k := 1260) (by decide +kernel) rfl, z_ap (k := 101) (by decide +kernel) rfl, z_at (k := 13) (by decide +kernel) rfl, z_at (k := 1261) rfl rfl, by decide +kernel⟩
set_option maxRecDepth 100000 in
theorem mw_Mo_others : z_mw y_Mo_others z_RMo 12 z_TMo 38 b_Mo_others 3 none 2 := ⟨rfl, z_at (k := 1373) (by decide +kernel) rfl, z_ap (k := 129) (by decide +kernel) rfl, z_at (k := 13) (by decide +kernel) rfl, z_at (k := 1374) rfl rfl, by decide +kernel⟩
set_option maxRecDepth 100000 in
theorem mw_Mo_loop : z_mw y_Mo_loop z_RMo 12 z_TMo 38 b_Mo_loop 5 none 1 := ⟨rfl, z_at (k := 1348) (by decide +kernel) rfl, z_ap (k := 123) (by decide +kernel) rfl, z_at (k := 13) (by decide +kernel) rfl, z_at (k := 1349) rfl rfl, by decide +kernel⟩
set_option maxRecDepth 100000 in
theorem mw_Mo_immediate : z_mw y_Mo_immediate z_RMo 12 z_TMo 38 b_Mo_immediate 5 none 1 := ⟨rfl, z_at (k := 1324) (by decide +kernel) rfl, z_ap (k := 117) (by decide +kernel) rfl, z_at (k := 13) (by decide +kernel) rfl, z_at (k := 1325) rfl rfl, by decide +kernel⟩
set_option maxRecDepth 100000 in
theorem mw_Mo_string : z_mw y_Mo_string z_RMo 12 z_TMo 38 b_Mo_string 11 none 2 := ⟨rfl, z_at (k := 1320) (by decide +kernel) rfl, z_ap (k := 116) (by decide +kernel) rfl, z_at (k := 13) (by decide +kernel) rfl, z_at (k := 1321) rfl rfl, by decide +kernel⟩
set_option maxRecDepth 100000 in
theorem mw_Mo_turn : z_mw y_Mo_turn z_RMo 12 z_TMo 38 b_Mo_turn 6 none 1 := ⟨rfl, z_at (k := 1316) (by decide +kernel) rfl, z_ap (k := 115) (by decide +kernel) rfl, z_at (k := 13) (by decide +kernel) rfl, z_at (k := 1317) rfl rfl, by decide +kernel⟩
set_option maxRecDepth 100000 in
theorem mw_Mo_move : z_mw y_Mo_move z_RMo 12 z_TMo 38 b_Mo_move 7 none 2 := ⟨rfl, z_at (k := 1312) (by decide +kernel) rfl, z_ap (k := 114) (by decide +kernel) rfl, z_at (k := 13) (by decide +kernel) rfl, z_at (k := 1313) rfl rfl, by decide +kernel⟩
set_option maxRecDepth 100000 in
theorem mw_Mo_holds : z_mw y_Mo_holds z_RMo 12 z_TMo 38 b_Mo_holds 5 (some .boolean) 1 := ⟨rfl, z_at (k := 1149) (by decide +kernel) rfl, z_ap (k := 77) (by decide +kernel) rfl, z_at (k := 13) (by decide +kernel) rfl, z_at (k := 1150) rfl rfl, by decide +kernel⟩
set_option maxRecDepth 100000 in
theorem mw_Mo_branch : z_mw y_Mo_branch z_RMo 12 z_TMo 38 b_Mo_branch 5 none 2 := ⟨rfl, z_at (k := 1166) (by decide +kernel) rfl, z_ap (k := 81) (by decide +kernel) rfl, z_at (k := 13) (by decide +kernel) rfl, z_at (k := 1167) rfl rfl, by decide +kernel⟩
set_option maxRecDepth 100000 in
theorem mw_Mo_shortStack : z_mw y_Mo_shortStack z_RMo 12 z_TMo 38 b_Mo_shortStack 3 none 1 := ⟨rfl, z_at (k := 1288) (by decide +kernel) rfl, z_ap (k := 108) (by decide +kernel) rfl, z_at (k := 13) (by decide +kernel) rfl, z_at (k := 1289) rfl rfl, by decide +kernel⟩
set_option maxRecDepth 100000 in
theorem mw_Mo_arithmetic : z_mw y_Mo_arithmetic z_RMo 12 z_TMo 38 b_Mo_arithmetic 8 none 3 := ⟨rfl, z_at (k := 1276) (by decide +kernel) rfl, z_ap (k := 105) (by decide +kernel) rfl, z_at (k := 13) (by decide +kernel) rfl, z_at (k := 1277) rfl rfl, by decide +kernel⟩
set_option maxRecDepth 100000 in
theorem mw_Mo_first : z_mw y_Mo_first z_RMo 12 z_TMo 38 b_Mo_first 3 none 2 := ⟨rfl, z_at (k := 1272) (by decide +kernel) rfl, z_ap (k := 104) (by decide +kernel) rfl, z_at (k := 13) (by decide +kernel) rfl, z_at (k := 1273) rfl rfl, by decide +kernel⟩
set_option maxRecDepth 100000 in
theorem mw_Mo_system : z_mw y_Mo_system z_RMo 12 z_TMo 38 b_Mo_system 2 none 1 := ⟨rfl, z_at (k := 1190) (by decide +kernel) rfl, z_ap (k := 87) (by decide +kernel) rfl, z_at (k := 13) (by decide +kernel) rfl, z_at (k := 1191) rfl rfl, by decide +kernel⟩
set_option maxRecDepth 100000 in
theorem mw_Ma_floorMod : z_ms y_Ma_floorMod b_Ma_floorMod 6 (some .long) 2 := ⟨z_at (k := 1209) (by decide +kernel) rfl, z_at (k := 14) (by decide +kernel) rfl, z_at (k := 1210) rfl rfl, by decide +kernel⟩
set_option maxRecDepth 100000 in
theorem mw_Mo_bit : z_mw y_Mo_bit z_RMo 12 z_TMo 38 b_Mo_bit 11 none 1 := ⟨rfl, z_at (k := 1206) (by decide +kernel) rfl, z_ap (k := 90) (by decide +kernel) rfl, z_at (k := 13) (by decide +kernel) rfl, z_at (k := 1207) rfl rfl, by decide +kernel⟩
set_option maxRecDepth 100000 in
theorem mw_Mo_compareAndChange : z_mw y_Mo_compareAndChange z_RMo 12 z_TMo 38 b_Mo_compareAndChange 4 none 1 := ⟨rfl, z_at (k := 1245) (by decide +kernel) rfl, z_ap (k := 98) (by decide +kernel) rfl, z_at (k := 13) (by decide +kernel) rfl, z_at (k := 1246) rfl rfl, by decide +kernel⟩
set_option maxRecDepth 100000 in
theorem mw_Mo_scan : z_mw y_Mo_scan z_RMo 12 z_TMo 38 b_Mo_scan 7 none 1 := ⟨rfl, z_at (k := 1264) (by decide +kernel) rfl, z_ap (k := 102) (by decide +kernel) rfl, z_at (k := 13) (by decide +kernel) rfl, z_at (k := 1265) rfl rfl, by decide +kernel⟩
set_option maxRecDepth 100000 in
theorem mw_Mo_addAndChange : z_mw y_Mo_addAndChange z_RMo 12 z_TMo 38 b_Mo_addAndChange 6 none 1 := ⟨rfl, z_at (k := 1268) (by decide +kernel) rfl, z_ap (k := 103) (by decide +kernel) rfl, z_at (k := 13) (by decide +kernel) rfl, z_at (k := 1269) rfl rfl, by decide +kernel⟩
set_option maxRecDepth 100000 in
theorem mw_Mo_turnRound : z_mw y_Mo_turnRound z_RMo 12 z_TMo 38 b_Mo_turnRound 6 none 1 := ⟨rfl, z_at (k := 1186) (by decide +kernel) rfl, z_ap (k := 86) (by decide +kernel) rfl, z_at (k := 13) (by decide +kernel) rfl, z_at (k := 1187) rfl rfl, by decide +kernel⟩
set_option maxRecDepth 100000 in
theorem mw_Mo_second : z_mw y_Mo_second z_RMo 12 z_TMo 38 b_Mo_second 5 none 2 := ⟨rfl, z_at (k := 1094) (by decide +kernel) rfl, z_ap (k := 65) (by decide +kernel) rfl, z_at (k := 13) (by decide +kernel) rfl, z_at (k := 1095) rfl rfl, by decide +kernel⟩
set_option maxRecDepth 100000 in
theorem mw_Co_step : z_mw y_Co_step z_RCo 0 z_TCo 8 b_Co_step 2 (some .int) 0 := ⟨rfl, z_at (k := 396) (by decide +kernel) rfl, z_at (k := 397) (by decide +kernel) rfl, z_at (k := 1) (by decide +kernel) rfl, z_at (k := 398) rfl rfl, by decide +kernel⟩
set_option maxRecDepth 100000 in
theorem mw_Mo_step : z_mw y_Mo_step z_RMo 12 z_TMo 38 b_Mo_step 2 (some .int) 0 := ⟨rfl, z_at (k := 1045) (by decide +kernel) rfl, z_at (k := 1046) (by decide +kernel) rfl, z_at (k := 13) (by decide +kernel) rfl, z_at (k := 1047) rfl rfl, by decide +kernel⟩
