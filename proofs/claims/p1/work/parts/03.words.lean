theorem fl_Co_21 : Cond.fieldLink z_RCo 21 "LongModeCore" "pages" "LLongModeCore$Pages;" ∈ z_tbl := z_at (k := 334) (by decide +kernel) rfl
theorem kl_Pa_19 : Cond.constantLong z_RPa 19 (32768) ∈ z_tbl := z_at (k := 366) (by decide +kernel) rfl
theorem kl_Pa_21 : Cond.constantLong z_RPa 21 (7) ∈ z_tbl := z_at (k := 367) (by decide +kernel) rfl
theorem fl_Pa_11 : Cond.fieldLink z_RPa 11 "LongModeCore$Pages" "words" "[J" ∈ z_tbl := z_at (k := 89) (by decide +kernel) rfl
theorem kl_Pa_23 : Cond.constantLong z_RPa 23 (255) ∈ z_tbl := z_at (k := 368) (by decide +kernel) rfl
theorem kl_Pa_25 : Cond.constantLong z_RPa 25 (-1) ∈ z_tbl := z_at (k := 369) (by decide +kernel) rfl
theorem ml_Co_92 : Cond.methodLink z_RCo 92 y_Pa_putByte ∈ z_tbl := z_at (k := 362) (by decide +kernel) rfl
theorem kl_Mo_60 : Cond.constantLong z_RMo 60 (8) ∈ z_tbl := z_at (k := 1074) (by decide +kernel) rfl
theorem kl_Mo_42 : Cond.constantLong z_RMo 42 (32768) ∈ z_tbl := z_at (k := 1083) (by decide +kernel) rfl
theorem fl_Mo_8 : Cond.fieldLink z_RMo 8 "LongModeCoreModel" "memory" "[B" ∈ z_tbl := z_at (k := 926) (by decide +kernel) rfl
theorem ml_Co_96 : Cond.methodLink z_RCo 96 y_Pa_byteAt ∈ z_tbl := z_at (k := 374) (by decide +kernel) rfl
theorem ml_Mo_44 : Cond.methodLink z_RMo 44 y_Mo_byteAt ∈ z_tbl := z_at (k := 1079) (by decide +kernel) rfl
theorem ml_Mo_62 : Cond.methodLink z_RMo 62 y_Mo_eight ∈ z_tbl := z_at (k := 1075) (by decide +kernel) rfl
theorem kl_Co_166 : Cond.constantLong z_RCo 166 (4294967295) ∈ z_tbl := z_at (k := 385) (by decide +kernel) rfl
theorem ml_Co_100 : Cond.methodLink z_RCo 100 y_Co_joined ∈ z_tbl := z_at (k := 382) (by decide +kernel) rfl
theorem fl_Co_12 : Cond.fieldLink z_RCo 12 "LongModeCore" "state" "LLongModeCore$State;" ∈ z_tbl := z_at (k := 333) (by decide +kernel) rfl
theorem fl_Co_108 : Cond.fieldLink z_RCo 108 "LongModeCore$State" "next" "J" ∈ z_tbl := z_at (k := 39) (by decide +kernel) rfl
theorem fl_Co_112 : Cond.fieldLink z_RCo 112 "LongModeCore$State" "table" "J" ∈ z_tbl := z_at (k := 40) (by decide +kernel) rfl
theorem fl_Co_115 : Cond.fieldLink z_RCo 115 "LongModeCore$State" "entry" "J" ∈ z_tbl := z_at (k := 42) (by decide +kernel) rfl
theorem fl_Co_118 : Cond.fieldLink z_RCo 118 "LongModeCore$State" "mask" "J" ∈ z_tbl := z_at (k := 44) (by decide +kernel) rfl
theorem fl_Co_121 : Cond.fieldLink z_RCo 121 "LongModeCore$State" "flags" "I" ∈ z_tbl := z_at (k := 53) (by decide +kernel) rfl
theorem fl_Co_125 : Cond.fieldLink z_RCo 125 "LongModeCore$State" "undefined" "J" ∈ z_tbl := z_at (k := 47) (by decide +kernel) rfl
theorem fl_Co_104 : Cond.fieldLink z_RCo 104 "LongModeCore$State" "registers" "[J" ∈ z_tbl := z_at (k := 33) (by decide +kernel) rfl
theorem kl_Mo_459 : Cond.constantLong z_RMo 459 (4294967295) ∈ z_tbl := z_at (k := 1422) (by decide +kernel) rfl
theorem ml_Mo_461 : Cond.methodLink z_RMo 461 y_Mo_join ∈ z_tbl := z_at (k := 1419) (by decide +kernel) rfl
theorem fl_Mo_205 : Cond.fieldLink z_RMo 205 "LongModeCoreModel" "undefined" "J" ∈ z_tbl := z_at (k := 933) (by decide +kernel) rfl
theorem fl_Mo_21 : Cond.fieldLink z_RMo 21 "LongModeCoreModel" "flag" "[Z" ∈ z_tbl := z_at (k := 939) (by decide +kernel) rfl
theorem kl_Mo_75 : Cond.constantLong z_RMo 75 (4) ∈ z_tbl := z_at (k := 1087) (by decide +kernel) rfl
theorem kl_Mo_451 : Cond.constantLong z_RMo 451 (16) ∈ z_tbl := z_at (k := 1196) (by decide +kernel) rfl
theorem kl_Mo_453 : Cond.constantLong z_RMo 453 (64) ∈ z_tbl := z_at (k := 1197) (by decide +kernel) rfl
theorem kl_Mo_66 : Cond.constantLong z_RMo 66 (128) ∈ z_tbl := z_at (k := 1084) (by decide +kernel) rfl
theorem kl_Mo_455 : Cond.constantLong z_RMo 455 (1024) ∈ z_tbl := z_at (k := 1198) (by decide +kernel) rfl
theorem kl_Mo_457 : Cond.constantLong z_RMo 457 (2048) ∈ z_tbl := z_at (k := 1199) (by decide +kernel) rfl
theorem ml_Mo_316 : Cond.methodLink z_RMo 316 y_Mo_setFlags ∈ z_tbl := z_at (k := 1200) (by decide +kernel) rfl
theorem fl_Mo_448 : Cond.fieldLink z_RMo 448 "LongModeCoreModel" "mask" "J" ∈ z_tbl := z_at (k := 932) (by decide +kernel) rfl
theorem fl_Mo_445 : Cond.fieldLink z_RMo 445 "LongModeCoreModel" "entryPlace" "J" ∈ z_tbl := z_at (k := 931) (by decide +kernel) rfl
theorem fl_Mo_52 : Cond.fieldLink z_RMo 52 "LongModeCoreModel" "table" "J" ∈ z_tbl := z_at (k := 930) (by decide +kernel) rfl
theorem fl_Mo_111 : Cond.fieldLink z_RMo 111 "LongModeCoreModel" "next" "J" ∈ z_tbl := z_at (k := 929) (by decide +kernel) rfl
theorem fl_Mo_14 : Cond.fieldLink z_RMo 14 "LongModeCoreModel" "\x72" "[J" ∈ z_tbl := z_at (k := 927) (by decide +kernel) rfl
theorem fl_Co_128 : Cond.fieldLink z_RCo 128 "LongModeCore$State" "fault" "J" ∈ z_tbl := z_at (k := 48) (by decide +kernel) rfl
theorem fl_Co_131 : Cond.fieldLink z_RCo 131 "LongModeCore$State" "code" "I" ∈ z_tbl := z_at (k := 55) (by decide +kernel) rfl
theorem fl_Co_134 : Cond.fieldLink z_RCo 134 "LongModeCore$State" "user" "Z" ∈ z_tbl := z_at (k := 57) (by decide +kernel) rfl
theorem kl_Co_138 : Cond.constantLong z_RCo 138 (3) ∈ z_tbl := z_at (k := 390) (by decide +kernel) rfl
theorem ml_Mo_304 : Cond.methodLink z_RMo 304 y_Mo_flags ∈ z_tbl := z_at (k := 1192) (by decide +kernel) rfl
theorem fl_Mo_89 : Cond.fieldLink z_RMo 89 "LongModeCoreModel" "fault" "J" ∈ z_tbl := z_at (k := 934) (by decide +kernel) rfl
theorem fl_Mo_92 : Cond.fieldLink z_RMo 92 "LongModeCoreModel" "code" "I" ∈ z_tbl := z_at (k := 935) (by decide +kernel) rfl
theorem fl_Mo_48 : Cond.fieldLink z_RMo 48 "LongModeCoreModel" "user" "Z" ∈ z_tbl := z_at (k := 937) (by decide +kernel) rfl
theorem kl_Mo_464 : Cond.constantLong z_RMo 464 (3) ∈ z_tbl := z_at (k := 1427) (by decide +kernel) rfl
theorem fl_Co_30 : Cond.fieldLink z_RCo 30 "LongModeCore" "decoder" "LLongModeCore$Decoder;" ∈ z_tbl := z_at (k := 335) (by decide +kernel) rfl
theorem fl_De_65 : Cond.fieldLink z_RDe 65 "LongModeCore$Decoder" "count" "I" ∈ z_tbl := z_at (k := 103) (by decide +kernel) rfl
theorem fl_De_71 : Cond.fieldLink z_RDe 71 "LongModeCore$Decoder" "shortened" "Z" ∈ z_tbl := z_at (k := 107) (by decide +kernel) rfl
theorem fl_De_75 : Cond.fieldLink z_RDe 75 "LongModeCore$Decoder" "repeat" "I" ∈ z_tbl := z_at (k := 115) (by decide +kernel) rfl
theorem fl_De_78 : Cond.fieldLink z_RDe 78 "LongModeCore$Decoder" "rex" "I" ∈ z_tbl := z_at (k := 108) (by decide +kernel) rfl
theorem fl_De_84 : Cond.fieldLink z_RDe 84 "LongModeCore$Decoder" "last" "I" ∈ z_tbl := z_at (k := 105) (by decide +kernel) rfl
theorem fl_De_23 : Cond.fieldLink z_RDe 23 "LongModeCore$Decoder" "opcode" "I" ∈ z_tbl := z_at (k := 120) (by decide +kernel) rfl
theorem fl_De_9 : Cond.fieldLink z_RDe 9 "LongModeCore$Decoder" "state" "LLongModeCore$State;" ∈ z_tbl := z_at (k := 101) (by decide +kernel) rfl
theorem fl_De_60 : Cond.fieldLink z_RDe 60 "LongModeCore$State" "next" "J" ∈ z_tbl := z_at (k := 37) (by decide +kernel) rfl
theorem fl_De_15 : Cond.fieldLink z_RDe 15 "LongModeCore$Decoder" "pages" "LLongModeCore$Pages;" ∈ z_tbl := z_at (k := 102) (by decide +kernel) rfl
theorem ml_Pa_27 : Cond.methodLink z_RPa 27 y_Pa_isWrong ∈ z_tbl := z_at (k := 416) (by decide +kernel) rfl
theorem fl_Pa_15 : Cond.fieldLink z_RPa 15 "LongModeCore$Pages" "state" "LLongModeCore$State;" ∈ z_tbl := z_at (k := 88) (by decide +kernel) rfl
theorem fl_Pa_31 : Cond.fieldLink z_RPa 31 "LongModeCore$State" "table" "J" ∈ z_tbl := z_at (k := 41) (by decide +kernel) rfl
theorem kl_Pa_37 : Cond.constantLong z_RPa 37 (4503599627366400) ∈ z_tbl := z_at (k := 419) (by decide +kernel) rfl
theorem kl_Pa_39 : Cond.constantLong z_RPa 39 (4095) ∈ z_tbl := z_at (k := 420) (by decide +kernel) rfl
theorem fl_Pa_63 : Cond.fieldLink z_RPa 63 "LongModeCore$State" "user" "Z" ∈ z_tbl := z_at (k := 58) (by decide +kernel) rfl
theorem kl_Pa_67 : Cond.constantLong z_RPa 67 (4) ∈ z_tbl := z_at (k := 429) (by decide +kernel) rfl
theorem kl_Pa_61 : Cond.constantLong z_RPa 61 (2) ∈ z_tbl := z_at (k := 426) (by decide +kernel) rfl
theorem ml_Pa_57 : Cond.methodLink z_RPa 57 y_Pa_isForbidden ∈ z_tbl := z_at (k := 435) (by decide +kernel) rfl
theorem kl_Pa_71 : Cond.constantLong z_RPa 71 (-2) ∈ z_tbl := z_at (k := 428) (by decide +kernel) rfl
theorem kl_Pa_69 : Cond.constantLong z_RPa 69 (16) ∈ z_tbl := z_at (k := 427) (by decide +kernel) rfl
theorem ml_Pa_43 : Cond.methodLink z_RPa 43 y_Pa_refused ∈ z_tbl := z_at (k := 422) (by decide +kernel) rfl
theorem kl_Pa_41 : Cond.constantLong z_RPa 41 (511) ∈ z_tbl := z_at (k := 421) (by decide +kernel) rfl
theorem kl_Pa_47 : Cond.constantLong z_RPa 47 (128) ∈ z_tbl := z_at (k := 430) (by decide +kernel) rfl
theorem kl_Pa_51 : Cond.constantLong z_RPa 51 (9) ∈ z_tbl := z_at (k := 432) (by decide +kernel) rfl
theorem kl_Pa_49 : Cond.constantLong z_RPa 49 (2088960) ∈ z_tbl := z_at (k := 431) (by decide +kernel) rfl
theorem kl_Pa_53 : Cond.constantLong z_RPa 53 (4503599625273344) ∈ z_tbl := z_at (k := 433) (by decide +kernel) rfl
theorem kl_Pa_55 : Cond.constantLong z_RPa 55 (2097151) ∈ z_tbl := z_at (k := 434) (by decide +kernel) rfl
theorem ml_De_147 : Cond.methodLink z_RDe 147 y_Pa_locate ∈ z_tbl := z_at (k := 412) (by decide +kernel) rfl
theorem fl_De_144 : Cond.fieldLink z_RDe 144 "LongModeCore$Decoder" "found" "J" ∈ z_tbl := z_at (k := 104) (by decide +kernel) rfl
theorem ml_De_154 : Cond.methodLink z_RDe 154 y_Pa_byteAt ∈ z_tbl := z_at (k := 443) (by decide +kernel) rfl
theorem fl_Pa_73 : Cond.fieldLink z_RPa 73 "LongModeCore$State" "fault" "J" ∈ z_tbl := z_at (k := 49) (by decide +kernel) rfl
theorem fl_Pa_76 : Cond.fieldLink z_RPa 76 "LongModeCore$State" "code" "I" ∈ z_tbl := z_at (k := 56) (by decide +kernel) rfl
theorem ml_De_150 : Cond.methodLink z_RDe 150 y_Pa_refusal ∈ z_tbl := z_at (k := 439) (by decide +kernel) rfl
theorem kl_De_142 : Cond.constantLong z_RDe 142 (4095) ∈ z_tbl := z_at (k := 411) (by decide +kernel) rfl
theorem ml_De_81 : Cond.methodLink z_RDe 81 y_De_fetch ∈ z_tbl := z_at (k := 407) (by decide +kernel) rfl
theorem ml_De_19 : Cond.methodLink z_RDe 19 y_De_fetchOpcode ∈ z_tbl := z_at (k := 403) (by decide +kernel) rfl
theorem ml_Co_140 : Cond.methodLink z_RCo 140 y_De_decode ∈ z_tbl := z_at (k := 399) (by decide +kernel) rfl
theorem fl_Co_61 : Cond.fieldLink z_RCo 61 "LongModeCore" "flow" "LLongModeCore$Flow;" ∈ z_tbl := z_at (k := 337) (by decide +kernel) rfl
theorem fl_Co_44 : Cond.fieldLink z_RCo 44 "LongModeCore" "operands" "LLongModeCore$Operands;" ∈ z_tbl := z_at (k := 336) (by decide +kernel) rfl
theorem fl_Mo_28 : Cond.fieldLink z_RMo 28 "LongModeCoreModel" "refused" "I" ∈ z_tbl := z_at (k := 941) (by decide +kernel) rfl
theorem fl_Mo_103 : Cond.fieldLink z_RMo 103 "LongModeCoreModel" "waits" "I" ∈ z_tbl := z_at (k := 944) (by decide +kernel) rfl
theorem fl_Mo_229 : Cond.fieldLink z_RMo 229 "LongModeCoreModel" "oldUser" "Z" ∈ z_tbl := z_at (k := 938) (by decide +kernel) rfl
theorem fl_Mo_108 : Cond.fieldLink z_RMo 108 "LongModeCoreModel" "length" "I" ∈ z_tbl := z_at (k := 946) (by decide +kernel) rfl
theorem fl_Mo_121 : Cond.fieldLink z_RMo 121 "LongModeCoreModel" "rex" "I" ∈ z_tbl := z_at (k := 950) (by decide +kernel) rfl
theorem fl_Mo_124 : Cond.fieldLink z_RMo 124 "LongModeCoreModel" "repeat" "I" ∈ z_tbl := z_at (k := 951) (by decide +kernel) rfl
theorem fl_Mo_127 : Cond.fieldLink z_RMo 127 "LongModeCoreModel" "small" "Z" ∈ z_tbl := z_at (k := 956) (by decide +kernel) rfl
theorem ml_Mo_77 : Cond.methodLink z_RMo 77 y_Mo_isWrong ∈ z_tbl := z_at (k := 1064) (by decide +kernel) rfl
theorem fl_Mo_39 : Cond.fieldLink z_RMo 39 "LongModeCoreModel" "lies" "[J" ∈ z_tbl := z_at (k := 945) (by decide +kernel) rfl
theorem ml_Mo_56 : Cond.methodLink z_RMo 56 y_Mo_bits ∈ z_tbl := z_at (k := 1071) (by decide +kernel) rfl
theorem fl_Mo_68 : Cond.fieldLink z_RMo 68 "LongModeCoreModel" "lookCode" "I" ∈ z_tbl := z_at (k := 936) (by decide +kernel) rfl
theorem kl_Mo_71 : Cond.constantLong z_RMo 71 (-1) ∈ z_tbl := z_at (k := 1085) (by decide +kernel) rfl
theorem kl_Mo_73 : Cond.constantLong z_RMo 73 (2) ∈ z_tbl := z_at (k := 1086) (by decide +kernel) rfl
theorem ml_Mo_85 : Cond.methodLink z_RMo 85 y_Mo_find ∈ z_tbl := z_at (k := 1067) (by decide +kernel) rfl
theorem ml_Mo_81 : Cond.methodLink z_RMo 81 y_Mo_refuse ∈ z_tbl := z_at (k := 1056) (by decide +kernel) rfl
theorem ml_Mo_95 : Cond.methodLink z_RMo 95 y_Mo_lookUp ∈ z_tbl := z_at (k := 1060) (by decide +kernel) rfl
theorem ml_Mo_114 : Cond.methodLink z_RMo 114 y_Mo_fetch ∈ z_tbl := z_at (k := 1052) (by decide +kernel) rfl
theorem fl_Mo_130 : Cond.fieldLink z_RMo 130 "LongModeCoreModel" "two" "Z" ∈ z_tbl := z_at (k := 958) (by decide +kernel) rfl
theorem fl_Mo_133 : Cond.fieldLink z_RMo 133 "LongModeCoreModel" "opcode" "I" ∈ z_tbl := z_at (k := 955) (by decide +kernel) rfl
theorem ml_Mo_232 : Cond.methodLink z_RMo 232 y_Mo_open ∈ z_tbl := z_at (k := 1048) (by decide +kernel) rfl
theorem fl_Mo_173 : Cond.fieldLink z_RMo 173 "LongModeCoreModel" "goes" "J" ∈ z_tbl := z_at (k := 960) (by decide +kernel) rfl
theorem fl_Mo_25 : Cond.fieldLink z_RMo 25 "LongModeCoreModel" "oldFlag" "[Z" ∈ z_tbl := z_at (k := 940) (by decide +kernel) rfl
theorem fl_Mo_18 : Cond.fieldLink z_RMo 18 "LongModeCoreModel" "old" "[J" ∈ z_tbl := z_at (k := 928) (by decide +kernel) rfl
theorem fl_Mo_32 : Cond.fieldLink z_RMo 32 "LongModeCoreModel" "waitAt" "[J" ∈ z_tbl := z_at (k := 942) (by decide +kernel) rfl
theorem fl_Mo_35 : Cond.fieldLink z_RMo 35 "LongModeCoreModel" "waitByte" "[I" ∈ z_tbl := z_at (k := 943) (by decide +kernel) rfl
theorem ml_Co_159 : Cond.methodLink z_RCo 159 y_Co_step ∈ z_tbl := z_at (k := 913) (by decide +kernel) rfl
theorem ml_Mo_466 : Cond.methodLink z_RMo 466 y_Mo_step ∈ z_tbl := z_at (k := 1436) (by decide +kernel) rfl
theorem ml_Co_162 : Cond.methodLink z_RCo 162 y_Pa_locate ∈ z_tbl := z_at (k := 918) (by decide +kernel) rfl
theorem kl_Mo_469 : Cond.constantLong z_RMo 469 (-2) ∈ z_tbl := z_at (k := 1441) (by decide +kernel) rfl
theorem fl_St_7 : Cond.fieldLink z_RSt 7 "LongModeCore$State" "registers" "[J" ∈ z_tbl := z_at (k := 30) (by decide +kernel) rfl
theorem fl_Sp_9 : Cond.fieldLink z_RSp 9 "LongModeCore$Span" "at" "[J" ∈ z_tbl := z_at (k := 188) (by decide +kernel) rfl
theorem fl_Sp_15 : Cond.fieldLink z_RSp 15 "LongModeCore$Span" "pages" "LLongModeCore$Pages;" ∈ z_tbl := z_at (k := 187) (by decide +kernel) rfl
theorem fl_Op_9 : Cond.fieldLink z_ROp 9 "LongModeCore$Operands" "state" "LLongModeCore$State;" ∈ z_tbl := z_at (k := 201) (by decide +kernel) rfl
theorem fl_Op_15 : Cond.fieldLink z_ROp 15 "LongModeCore$Operands" "code" "LLongModeCore$Decoder;" ∈ z_tbl := z_at (k := 202) (by decide +kernel) rfl
theorem fl_Op_19 : Cond.fieldLink z_ROp 19 "LongModeCore$Operands" "span" "LLongModeCore$Span;" ∈ z_tbl := z_at (k := 203) (by decide +kernel) rfl
theorem fl_Ar_9 : Cond.fieldLink z_RAr 9 "LongModeCore$Arithmetic" "state" "LLongModeCore$State;" ∈ z_tbl := z_at (k := 222) (by decide +kernel) rfl
theorem fl_Wi_9 : Cond.fieldLink z_RWi 9 "LongModeCore$Wide" "arithmetic" "LLongModeCore$Arithmetic;" ∈ z_tbl := z_at (k := 232) (by decide +kernel) rfl
theorem fl_Fl_9 : Cond.fieldLink z_RFl 9 "LongModeCore$Flow" "state" "LLongModeCore$State;" ∈ z_tbl := z_at (k := 251) (by decide +kernel) rfl
theorem fl_Fl_15 : Cond.fieldLink z_RFl 15 "LongModeCore$Flow" "code" "LLongModeCore$Decoder;" ∈ z_tbl := z_at (k := 252) (by decide +kernel) rfl
theorem fl_Fl_19 : Cond.fieldLink z_RFl 19 "LongModeCore$Flow" "operands" "LLongModeCore$Operands;" ∈ z_tbl := z_at (k := 253) (by decide +kernel) rfl
theorem fl_Fl_23 : Cond.fieldLink z_RFl 23 "LongModeCore$Flow" "arithmetic" "LLongModeCore$Arithmetic;" ∈ z_tbl := z_at (k := 254) (by decide +kernel) rfl
theorem fl_Fl_27 : Cond.fieldLink z_RFl 27 "LongModeCore$Flow" "top" "LLongModeCore$Span;" ∈ z_tbl := z_at (k := 255) (by decide +kernel) rfl
theorem fl_Sr_9 : Cond.fieldLink z_RSr 9 "LongModeCore$Strings" "state" "LLongModeCore$State;" ∈ z_tbl := z_at (k := 273) (by decide +kernel) rfl
theorem fl_Sr_15 : Cond.fieldLink z_RSr 15 "LongModeCore$Strings" "code" "LLongModeCore$Decoder;" ∈ z_tbl := z_at (k := 274) (by decide +kernel) rfl
theorem fl_Sr_19 : Cond.fieldLink z_RSr 19 "LongModeCore$Strings" "operands" "LLongModeCore$Operands;" ∈ z_tbl := z_at (k := 275) (by decide +kernel) rfl
theorem fl_Sr_23 : Cond.fieldLink z_RSr 23 "LongModeCore$Strings" "arithmetic" "LLongModeCore$Arithmetic;" ∈ z_tbl := z_at (k := 276) (by decide +kernel) rfl
theorem fl_Sr_27 : Cond.fieldLink z_RSr 27 "LongModeCore$Strings" "source" "LLongModeCore$Span;" ∈ z_tbl := z_at (k := 277) (by decide +kernel) rfl
theorem fl_Sr_31 : Cond.fieldLink z_RSr 31 "LongModeCore$Strings" "goal" "LLongModeCore$Span;" ∈ z_tbl := z_at (k := 278) (by decide +kernel) rfl
theorem fl_On_9 : Cond.fieldLink z_ROn 9 "LongModeCore$OneByte" "state" "LLongModeCore$State;" ∈ z_tbl := z_at (k := 298) (by decide +kernel) rfl
theorem fl_On_15 : Cond.fieldLink z_ROn 15 "LongModeCore$OneByte" "code" "LLongModeCore$Decoder;" ∈ z_tbl := z_at (k := 299) (by decide +kernel) rfl
theorem fl_On_19 : Cond.fieldLink z_ROn 19 "LongModeCore$OneByte" "operands" "LLongModeCore$Operands;" ∈ z_tbl := z_at (k := 300) (by decide +kernel) rfl
theorem fl_On_23 : Cond.fieldLink z_ROn 23 "LongModeCore$OneByte" "arithmetic" "LLongModeCore$Arithmetic;" ∈ z_tbl := z_at (k := 301) (by decide +kernel) rfl
theorem fl_On_27 : Cond.fieldLink z_ROn 27 "LongModeCore$OneByte" "wide" "LLongModeCore$Wide;" ∈ z_tbl := z_at (k := 302) (by decide +kernel) rfl
theorem fl_Tw_9 : Cond.fieldLink z_RTw 9 "LongModeCore$TwoByte" "code" "LLongModeCore$Decoder;" ∈ z_tbl := z_at (k := 320) (by decide +kernel) rfl
theorem fl_Tw_15 : Cond.fieldLink z_RTw 15 "LongModeCore$TwoByte" "operands" "LLongModeCore$Operands;" ∈ z_tbl := z_at (k := 321) (by decide +kernel) rfl
theorem fl_Tw_19 : Cond.fieldLink z_RTw 19 "LongModeCore$TwoByte" "arithmetic" "LLongModeCore$Arithmetic;" ∈ z_tbl := z_at (k := 322) (by decide +kernel) rfl
theorem fl_Tw_23 : Cond.fieldLink z_RTw 23 "LongModeCore$TwoByte" "wide" "LLongModeCore$Wide;" ∈ z_tbl := z_at (k := 323) (by decide +kernel) rfl
theorem ml_Co_11 : Cond.methodLink z_RCo 11 y_St_init ∈ z_tbl := z_at (k := 26) (by decide +kernel) rfl
theorem ml_Co_18 : Cond.methodLink z_RCo 18 y_Pa_init ∈ z_tbl := z_at (k := 84) (by decide +kernel) rfl
theorem ml_Co_27 : Cond.methodLink z_RCo 27 y_De_init ∈ z_tbl := z_at (k := 97) (by decide +kernel) rfl
theorem ml_Co_38 : Cond.methodLink z_RCo 38 y_Sp_init ∈ z_tbl := z_at (k := 183) (by decide +kernel) rfl
theorem ml_Co_41 : Cond.methodLink z_RCo 41 y_Op_init ∈ z_tbl := z_at (k := 197) (by decide +kernel) rfl
theorem ml_Co_50 : Cond.methodLink z_RCo 50 y_Ar_init ∈ z_tbl := z_at (k := 218) (by decide +kernel) rfl
theorem ml_Co_53 : Cond.methodLink z_RCo 53 y_Wi_init ∈ z_tbl := z_at (k := 228) (by decide +kernel) rfl
theorem ml_Co_58 : Cond.methodLink z_RCo 58 y_Fl_init ∈ z_tbl := z_at (k := 247) (by decide +kernel) rfl
theorem ml_Co_67 : Cond.methodLink z_RCo 67 y_Sr_init ∈ z_tbl := z_at (k := 269) (by decide +kernel) rfl
theorem fl_Co_70 : Cond.fieldLink z_RCo 70 "LongModeCore" "strings" "LLongModeCore$Strings;" ∈ z_tbl := z_at (k := 338) (by decide +kernel) rfl
theorem ml_Co_76 : Cond.methodLink z_RCo 76 y_On_init ∈ z_tbl := z_at (k := 294) (by decide +kernel) rfl
theorem fl_Co_79 : Cond.fieldLink z_RCo 79 "LongModeCore" "oneByte" "LLongModeCore$OneByte;" ∈ z_tbl := z_at (k := 339) (by decide +kernel) rfl
theorem ml_Co_85 : Cond.methodLink z_RCo 85 y_Tw_init ∈ z_tbl := z_at (k := 316) (by decide +kernel) rfl
theorem fl_Co_88 : Cond.fieldLink z_RCo 88 "LongModeCore" "twoByte" "LLongModeCore$TwoByte;" ∈ z_tbl := z_at (k := 340) (by decide +kernel) rfl
theorem ki_Mo_7 : Cond.constant z_RMo 7 (32768) ∈ z_tbl := z_at (k := 925) (by decide +kernel) rfl
set_option maxRecDepth 100000 in
theorem mw_Pa_putByte : z_mw y_Pa_putByte z_RPa 6 z_TPa 2 b_Pa_putByte 7 none 2 := ⟨rfl, z_at (k := 363) (by decide +kernel) rfl, z_at (k := 364) (by decide +kernel) rfl, z_at (k := 3) (by decide +kernel) rfl, z_at (k := 365) rfl rfl, by decide +kernel⟩
set_option maxRecDepth 100000 in
theorem mw_Pa_byteAt : z_mw y_Pa_byteAt z_RPa 6 z_TPa 2 b_Pa_byteAt 4 (some .int) 1 := ⟨rfl, z_at (k := 375) (by decide +kernel) rfl, z_at (k := 376) (by decide +kernel) rfl, z_at (k := 3) (by decide +kernel) rfl, z_at (k := 377) rfl rfl, by decide +kernel⟩
set_option maxRecDepth 100000 in
theorem mw_Mo_byteAt : z_mw y_Mo_byteAt z_RMo 12 z_TMo 38 b_Mo_byteAt 3 (some .int) 1 := ⟨rfl, z_at (k := 1081) (by decide +kernel) rfl, z_ap (k := 63) (by decide +kernel) rfl, z_at (k := 13) (by decide +kernel) rfl, z_at (k := 1082) rfl rfl, by decide +kernel⟩
set_option maxRecDepth 100000 in
theorem mw_Mo_eight : z_mw y_Mo_eight z_RMo 12 z_TMo 38 b_Mo_eight 6 (some .long) 1 := ⟨rfl, z_at (k := 1077) (by decide +kernel) rfl, z_ap (k := 62) (by decide +kernel) rfl, z_at (k := 13) (by decide +kernel) rfl, z_at (k := 1078) rfl rfl, by decide +kernel⟩
set_option maxRecDepth 100000 in
theorem mw_Co_joined : z_ms y_Co_joined b_Co_joined 2 (some .long) 2 := ⟨z_at (k := 383) (by decide +kernel) rfl, z_at (k := 1) (by decide +kernel) rfl, z_at (k := 384) rfl rfl, by decide +kernel⟩
set_option maxRecDepth 100000 in
theorem mw_Mo_join : z_ms y_Mo_join b_Mo_join 2 (some .long) 2 := ⟨z_at (k := 1420) (by decide +kernel) rfl, z_at (k := 13) (by decide +kernel) rfl, z_at (k := 1421) rfl rfl, by decide +kernel⟩
set_option maxRecDepth 100000 in
theorem mw_Mo_setFlags : z_mw y_Mo_setFlags z_RMo 12 z_TMo 38 b_Mo_setFlags 3 none 1 := ⟨rfl, z_at (k := 1202) (by decide +kernel) rfl, z_ap (k := 89) (by decide +kernel) rfl, z_at (k := 13) (by decide +kernel) rfl, z_at (k := 1203) rfl rfl, by decide +kernel⟩
set_option maxRecDepth 100000 in
theorem mw_Mo_flags : z_mw y_Mo_flags z_RMo 12 z_TMo 38 b_Mo_flags 1 (some .long) 0 := ⟨rfl, z_at (k := 1194) (by decide +kernel) rfl, z_ap (k := 88) (by decide +kernel) rfl, z_at (k := 13) (by decide +kernel) rfl, z_at (k := 1195) rfl rfl, by decide +kernel⟩
set_option maxRecDepth 100000 in
theorem mw_Pa_isWrong : z_ms y_Pa_isWrong b_Pa_isWrong 4 (some .boolean) 1 := ⟨z_at (k := 417) (by decide +kernel) rfl, z_at (k := 3) (by decide +kernel) rfl, z_at (k := 418) rfl rfl, by decide +kernel⟩
set_option maxRecDepth 100000 in
theorem mw_Pa_isForbidden : z_mw y_Pa_isForbidden z_RPa 6 z_TPa 2 b_Pa_isForbidden 6 (some .boolean) 3 := ⟨rfl, z_at (k := 437) (by decide +kernel) rfl, z_ap (k := 3) (by decide +kernel) rfl, z_at (k := 3) (by decide +kernel) rfl, z_at (k := 438) rfl rfl, by decide +kernel⟩
set_option maxRecDepth 100000 in
theorem mw_Pa_refused : z_mw y_Pa_refused z_RPa 6 z_TPa 2 b_Pa_refused 6 (some .long) 2 := ⟨rfl, z_at (k := 424) (by decide +kernel) rfl, z_ap (k := 2) (by decide +kernel) rfl, z_at (k := 3) (by decide +kernel) rfl, z_at (k := 425) rfl rfl, by decide +kernel⟩
set_option maxRecDepth 100000 in
theorem mw_Pa_locate : z_mw y_Pa_locate z_RPa 6 z_TPa 2 b_Pa_locate 17 (some .long) 2 := ⟨rfl, z_at (k := 413) (by decide +kernel) rfl, z_at (k := 414) (by decide +kernel) rfl, z_at (k := 3) (by decide +kernel) rfl, z_at (k := 415) rfl rfl, by decide +kernel⟩
set_option maxRecDepth 100000 in
theorem mw_Pa_refusal : z_mw y_Pa_refusal z_RPa 6 z_TPa 2 b_Pa_refusal 6 (some .int) 3 := ⟨rfl, z_at (k := 440) (by decide +kernel) rfl, z_at (k := 441) (by decide +kernel) rfl, z_at (k := 3) (by decide +kernel) rfl, z_at (k := 442) rfl rfl, by decide +kernel⟩
set_option maxRecDepth 100000 in
theorem mw_De_fetch : z_mw y_De_fetch z_RDe 2 z_TDe 19 b_De_fetch 3 (some .int) 0 := ⟨rfl, z_at (k := 409) (by decide +kernel) rfl, z_ap (k := 1) (by decide +kernel) rfl, z_at (k := 4) (by decide +kernel) rfl, z_at (k := 410) rfl rfl, by decide +kernel⟩
set_option maxRecDepth 100000 in
theorem mw_De_fetchOpcode : z_mw y_De_fetchOpcode z_RDe 2 z_TDe 19 b_De_fetchOpcode 3 (some .int) 0 := ⟨rfl, z_at (k := 405) (by decide +kernel) rfl, z_ap (k := 0) (by decide +kernel) rfl, z_at (k := 4) (by decide +kernel) rfl, z_at (k := 406) rfl rfl, by decide +kernel⟩
set_option maxRecDepth 100000 in
theorem mw_De_decode : z_mw y_De_decode z_RDe 2 z_TDe 19 b_De_decode 3 (some .int) 0 := ⟨rfl, z_at (k := 400) (by decide +kernel) rfl, z_at (k := 401) (by decide +kernel) rfl, z_at (k := 4) (by decide +kernel) rfl, z_at (k := 402) rfl rfl, by decide +kernel⟩
set_option maxRecDepth 100000 in
theorem mw_Mo_isWrong : z_ms y_Mo_isWrong b_Mo_isWrong 5 (some .boolean) 1 := ⟨z_at (k := 1065) (by decide +kernel) rfl, z_at (k := 13) (by decide +kernel) rfl, z_at (k := 1066) rfl rfl, by decide +kernel⟩
set_option maxRecDepth 100000 in
theorem mw_Mo_bits : z_ms y_Mo_bits b_Mo_bits 4 (some .long) 3 := ⟨z_at (k := 1072) (by decide +kernel) rfl, z_at (k := 13) (by decide +kernel) rfl, z_at (k := 1073) rfl rfl, by decide +kernel⟩
set_option maxRecDepth 100000 in
theorem mw_Mo_find : z_mw y_Mo_find z_RMo 12 z_TMo 38 b_Mo_find 15 (some .long) 2 := ⟨rfl, z_at (k := 1069) (by decide +kernel) rfl, z_ap (k := 61) (by decide +kernel) rfl, z_at (k := 13) (by decide +kernel) rfl, z_at (k := 1070) rfl rfl, by decide +kernel⟩
set_option maxRecDepth 100000 in
theorem mw_Mo_refuse : z_mw y_Mo_refuse z_RMo 12 z_TMo 38 b_Mo_refuse 2 none 1 := ⟨rfl, z_at (k := 1058) (by decide +kernel) rfl, z_ap (k := 59) (by decide +kernel) rfl, z_at (k := 13) (by decide +kernel) rfl, z_at (k := 1059) rfl rfl, by decide +kernel⟩
set_option maxRecDepth 100000 in
theorem mw_Mo_lookUp : z_mw y_Mo_lookUp z_RMo 12 z_TMo 38 b_Mo_lookUp 7 none 4 := ⟨rfl, z_at (k := 1062) (by decide +kernel) rfl, z_ap (k := 60) (by decide +kernel) rfl, z_at (k := 13) (by decide +kernel) rfl, z_at (k := 1063) rfl rfl, by decide +kernel⟩
set_option maxRecDepth 100000 in
theorem mw_Mo_fetch : z_mw y_Mo_fetch z_RMo 12 z_TMo 38 b_Mo_fetch 1 (some .int) 0 := ⟨rfl, z_at (k := 1054) (by decide +kernel) rfl, z_ap (k := 58) (by decide +kernel) rfl, z_at (k := 13) (by decide +kernel) rfl, z_at (k := 1055) rfl rfl, by decide +kernel⟩
set_option maxRecDepth 100000 in
theorem mw_Mo_open : z_mw y_Mo_open z_RMo 12 z_TMo 38 b_Mo_open 2 none 0 := ⟨rfl, z_at (k := 1050) (by decide +kernel) rfl, z_ap (k := 57) (by decide +kernel) rfl, z_at (k := 13) (by decide +kernel) rfl, z_at (k := 1051) rfl rfl, by decide +kernel⟩
set_option maxRecDepth 100000 in
theorem mw_Co_step : z_mw y_Co_step z_RCo 0 z_TCo 8 b_Co_step 2 (some .int) 0 := ⟨rfl, z_at (k := 396) (by decide +kernel) rfl, z_at (k := 397) (by decide +kernel) rfl, z_at (k := 1) (by decide +kernel) rfl, z_at (k := 398) rfl rfl, by decide +kernel⟩
set_option maxRecDepth 100000 in
theorem mw_Mo_step : z_mw y_Mo_step z_RMo 12 z_TMo 38 b_Mo_step 2 (some .int) 0 := ⟨rfl, z_at (k := 1045) (by decide +kernel) rfl, z_at (k := 1046) (by decide +kernel) rfl, z_at (k := 13) (by decide +kernel) rfl, z_at (k := 1047) rfl rfl, by decide +kernel⟩
