theorem mt0 {c : Cond} (h : c ∈ k2_sels lw_privs) : c ∈ lw_tbl := List.mem_append_left _ h
theorem mt1 {c : Cond} (h : c ∈ tables_1_1) : c ∈ lw_tbl := List.mem_append_right _ (List.mem_append_left _ h)
theorem mt2 {c : Cond} (h : c ∈ tables_1_2) : c ∈ lw_tbl := List.mem_append_right _ (List.mem_append_right _ (List.mem_append_left _ h))
theorem mt3 {c : Cond} (h : c ∈ tables_1_3) : c ∈ lw_tbl := List.mem_append_right _ (List.mem_append_right _ (List.mem_append_right _ (h)))
set_option maxRecDepth 100000 in
theorem wd_0 : Cond.selects "AntTrails$Survey" ⟨"AntTrails$Survey", "shorten", "(LAntTrails$Ground;I)V"⟩ ⟨"AntTrails$Survey", "shorten", "(LAntTrails$Ground;I)V"⟩ ∈ lw_tbl := mt0 (List.mem_of_getElem? (i := 0) rfl)
set_option maxRecDepth 100000 in
theorem wd_1 : Cond.selects "AntTrails$Colony" ⟨"AntTrails$Colony", "clearLaid", "()V"⟩ ⟨"AntTrails$Colony", "clearLaid", "()V"⟩ ∈ lw_tbl := mt0 (List.mem_of_getElem? (i := 1) rfl)
set_option maxRecDepth 100000 in
theorem wd_2 : Cond.selects "AntTrails$Colony" ⟨"AntTrails$Colony", "lookAhead", "(LAntTrails$Ground;)I"⟩ ⟨"AntTrails$Colony", "lookAhead", "(LAntTrails$Ground;)I"⟩ ∈ lw_tbl := mt0 (List.mem_of_getElem? (i := 2) rfl)
set_option maxRecDepth 100000 in
theorem wd_3 : Cond.selects "AntTrails$Colony" ⟨"AntTrails$Colony", "pathAhead", "(LAntTrails$Ground;I)I"⟩ ⟨"AntTrails$Colony", "pathAhead", "(LAntTrails$Ground;I)I"⟩ ∈ lw_tbl := mt0 (List.mem_of_getElem? (i := 3) rfl)
set_option maxRecDepth 100000 in
theorem wd_4 : Cond.selects "AntTrails$Colony" ⟨"AntTrails$Colony", "layTrail", "(I)V"⟩ ⟨"AntTrails$Colony", "layTrail", "(I)V"⟩ ∈ lw_tbl := mt0 (List.mem_of_getElem? (i := 4) rfl)
set_option maxRecDepth 100000 in
theorem wd_5 : Cond.selects "AntTrails$Survey" ⟨"AntTrails$Survey", "greatestAhead", "(LAntTrails$Ground;)I"⟩ ⟨"AntTrails$Survey", "greatestAhead", "(LAntTrails$Ground;)I"⟩ ∈ lw_tbl := mt0 (List.mem_of_getElem? (i := 5) rfl)
set_option maxRecDepth 100000 in
theorem wd_6 : Cond.selects "AntTrails$History" ⟨"AntTrails$History", "dropOldest", "()V"⟩ ⟨"AntTrails$History", "dropOldest", "()V"⟩ ∈ lw_tbl := mt0 (List.mem_of_getElem? (i := 6) rfl)
set_option maxRecDepth 100000 in
theorem wd_7 : Cond.selects "AntTrails$Orders" ⟨"AntTrails$Orders", "read", "(I)Z"⟩ ⟨"AntTrails$Orders", "read", "(I)Z"⟩ ∈ lw_tbl := mt0 (List.mem_of_getElem? (i := 7) rfl)
set_option maxRecDepth 100000 in
theorem wd_8 : Cond.selects "AntTrails$Orders" ⟨"AntTrails$Orders", "signHere", "()C"⟩ ⟨"AntTrails$Orders", "signHere", "()C"⟩ ∈ lw_tbl := mt0 (List.mem_of_getElem? (i := 8) rfl)
set_option maxRecDepth 100000 in
theorem wd_9 : Cond.selects "AntTrails$Orders" ⟨"AntTrails$Orders", "skip", "(C)Z"⟩ ⟨"AntTrails$Orders", "skip", "(C)Z"⟩ ∈ lw_tbl := mt0 (List.mem_of_getElem? (i := 9) rfl)
set_option maxRecDepth 100000 in
theorem wd_10 : Cond.selects "AntTrails$Orders" ⟨"AntTrails$Orders", "readNumber", "(I)Z"⟩ ⟨"AntTrails$Orders", "readNumber", "(I)Z"⟩ ∈ lw_tbl := mt0 (List.mem_of_getElem? (i := 10) rfl)
set_option maxRecDepth 100000 in
theorem wd_11 : Cond.selects "AntTrails$Orders" ⟨"AntTrails$Orders", "noteFault", "(III)V"⟩ ⟨"AntTrails$Orders", "noteFault", "(III)V"⟩ ∈ lw_tbl := mt0 (List.mem_of_getElem? (i := 11) rfl)
set_option maxRecDepth 100000 in
theorem wd_12 : Cond.selects "AntTrails$Orders" ⟨"AntTrails$Orders", "carryOutOne", "(LAntTrails$Ground;LAntTrails$Colony;)I"⟩ ⟨"AntTrails$Orders", "carryOutOne", "(LAntTrails$Ground;LAntTrails$Colony;)I"⟩ ∈ lw_tbl := mt0 (List.mem_of_getElem? (i := 12) rfl)
set_option maxRecDepth 100000 in
theorem wd_13 : Cond.initialized "AntTrailsLaw" ∈ lw_tbl := mt1 (List.mem_of_getElem? (i := 0) rfl)
set_option maxRecDepth 100000 in
theorem wd_14 : Cond.initialized "AntTrails" ∈ lw_tbl := mt1 (List.mem_of_getElem? (i := 1) rfl)
set_option maxRecDepth 100000 in
theorem wd_15 : Cond.initialized "AntTrails$Ground" ∈ lw_tbl := mt1 (List.mem_of_getElem? (i := 2) rfl)
set_option maxRecDepth 100000 in
theorem wd_16 : Cond.initialized "AntTrails$Way" ∈ lw_tbl := mt1 (List.mem_of_getElem? (i := 3) rfl)
set_option maxRecDepth 100000 in
theorem wd_17 : Cond.initialized "AntTrails$History" ∈ lw_tbl := mt1 (List.mem_of_getElem? (i := 4) rfl)
set_option maxRecDepth 100000 in
theorem wd_18 : Cond.initialized "AntTrails$Colony" ∈ lw_tbl := mt1 (List.mem_of_getElem? (i := 5) rfl)
set_option maxRecDepth 100000 in
theorem wd_19 : Cond.initialized "AntTrails$Survey" ∈ lw_tbl := mt1 (List.mem_of_getElem? (i := 6) rfl)
set_option maxRecDepth 100000 in
theorem wd_20 : Cond.initialized "AntTrails$Orders" ∈ lw_tbl := mt1 (List.mem_of_getElem? (i := 7) rfl)
set_option maxRecDepth 100000 in
theorem wd_21 : Cond.initialized "java/lang/Math" ∈ lw_tbl := mt1 (List.mem_of_getElem? (i := 8) rfl)
set_option maxRecDepth 100000 in
theorem wd_22 : Cond.classLink "AntTrailsLaw" 14 "AntTrails" ∈ lw_tbl := mt1 (List.mem_of_getElem? (i := 9) rfl)
set_option maxRecDepth 100000 in
theorem wd_23 : Cond.instantiable "AntTrails" 6 ∈ lw_tbl := mt1 (List.mem_of_getElem? (i := 10) rfl)
set_option maxRecDepth 100000 in
theorem wd_24 : Cond.methodLink "AntTrailsLaw" 106 ⟨"AntTrails", "<init>", "()V"⟩ ∈ lw_tbl := mt1 (List.mem_of_getElem? (i := 11) rfl)
set_option maxRecDepth 100000 in
theorem wd_25 : Cond.instanceMethod ⟨"AntTrails", "<init>", "()V"⟩ ∈ lw_tbl := mt1 (List.mem_of_getElem? (i := 12) rfl)
set_option maxRecDepth 100000 in
theorem wd_26 : Cond.code ⟨"AntTrails", "<init>", "()V"⟩ prog_1_method_1_code 1 none ∈ lw_tbl := mt1 (List.mem_of_getElem? (i := 13) rfl)
set_option maxRecDepth 100000 in
theorem wd_27 : Cond.methodLink "AntTrails" 1 ⟨"java/lang/Object", "<init>", "()V"⟩ ∈ lw_tbl := mt1 (List.mem_of_getElem? (i := 14) rfl)
set_option maxRecDepth 100000 in
theorem wd_28 : Cond.instanceMethod ⟨"java/lang/Object", "<init>", "()V"⟩ ∈ lw_tbl := mt1 (List.mem_of_getElem? (i := 15) rfl)
set_option maxRecDepth 100000 in
theorem wd_29 : Cond.code ⟨"java/lang/Object", "<init>", "()V"⟩ object_method_1_code 1 none ∈ lw_tbl := mt1 (List.mem_of_getElem? (i := 16) rfl)
set_option maxRecDepth 100000 in
theorem wd_30 : Cond.classLink "AntTrails" 7 "AntTrails$Ground" ∈ lw_tbl := mt1 (List.mem_of_getElem? (i := 17) rfl)
set_option maxRecDepth 100000 in
theorem wd_31 : Cond.instantiable "AntTrails$Ground" 17 ∈ lw_tbl := mt1 (List.mem_of_getElem? (i := 18) rfl)
set_option maxRecDepth 100000 in
theorem wd_32 : Cond.methodLink "AntTrails" 9 ⟨"AntTrails$Ground", "<init>", "()V"⟩ ∈ lw_tbl := mt1 (List.mem_of_getElem? (i := 19) rfl)
set_option maxRecDepth 100000 in
theorem wd_33 : Cond.instanceMethod ⟨"AntTrails$Ground", "<init>", "()V"⟩ ∈ lw_tbl := mt1 (List.mem_of_getElem? (i := 20) rfl)
set_option maxRecDepth 100000 in
theorem wd_34 : Cond.code ⟨"AntTrails$Ground", "<init>", "()V"⟩ prog_3_method_1_code 1 none ∈ lw_tbl := mt1 (List.mem_of_getElem? (i := 21) rfl)
set_option maxRecDepth 100000 in
theorem wd_35 : Cond.methodLink "AntTrails$Ground" 3 ⟨"java/lang/Object", "<init>", "()V"⟩ ∈ lw_tbl := mt1 (List.mem_of_getElem? (i := 22) rfl)
set_option maxRecDepth 100000 in
theorem wd_36 : Cond.classLink "AntTrails$Ground" 58 "AntTrails$Way" ∈ lw_tbl := mt1 (List.mem_of_getElem? (i := 23) rfl)
set_option maxRecDepth 100000 in
theorem wd_37 : Cond.instantiable "AntTrails$Way" 5 ∈ lw_tbl := mt1 (List.mem_of_getElem? (i := 24) rfl)
set_option maxRecDepth 100000 in
theorem wd_38 : Cond.methodLinkNest "AntTrails$Ground" 60 ⟨"AntTrails$Way", "<init>", "()V"⟩ "AntTrails" ∈ lw_tbl := mt1 (List.mem_of_getElem? (i := 25) rfl)
set_option maxRecDepth 100000 in
theorem wd_39 : Cond.instanceMethod ⟨"AntTrails$Way", "<init>", "()V"⟩ ∈ lw_tbl := mt1 (List.mem_of_getElem? (i := 26) rfl)
set_option maxRecDepth 100000 in
theorem wd_40 : Cond.code ⟨"AntTrails$Way", "<init>", "()V"⟩ prog_7_method_1_code 1 none ∈ lw_tbl := mt1 (List.mem_of_getElem? (i := 27) rfl)
set_option maxRecDepth 100000 in
theorem wd_41 : Cond.methodLink "AntTrails$Way" 3 ⟨"java/lang/Object", "<init>", "()V"⟩ ∈ lw_tbl := mt1 (List.mem_of_getElem? (i := 28) rfl)
set_option maxRecDepth 100000 in
theorem wd_42 : Cond.fieldLink "AntTrails$Way" 9 "AntTrails$Way" "places" "[I" ∈ lw_tbl := mt1 (List.mem_of_getElem? (i := 29) rfl)
set_option maxRecDepth 100000 in
theorem wd_43 : Cond.fieldLink "AntTrails$Way" 15 "AntTrails$Way" "steps" "I" ∈ lw_tbl := mt1 (List.mem_of_getElem? (i := 30) rfl)
set_option maxRecDepth 100000 in
theorem wd_44 : Cond.fieldLinkNest "AntTrails$Ground" 79 "AntTrails$Way" "steps" "I" "AntTrails" ∈ lw_tbl := mt1 (List.mem_of_getElem? (i := 31) rfl)
set_option maxRecDepth 100000 in
theorem wd_45 : Cond.fieldLinkNest "AntTrails" 148 "AntTrails$Way" "steps" "I" "AntTrails" ∈ lw_tbl := mt1 (List.mem_of_getElem? (i := 32) rfl)
set_option maxRecDepth 100000 in
theorem wd_46 : Cond.fieldLink "AntTrails$Way" 19 "AntTrails$Way" "length" "I" ∈ lw_tbl := mt1 (List.mem_of_getElem? (i := 33) rfl)
set_option maxRecDepth 100000 in
theorem wd_47 : Cond.fieldLinkNest "AntTrails$Colony" 102 "AntTrails$Way" "length" "I" "AntTrails" ∈ lw_tbl := mt1 (List.mem_of_getElem? (i := 34) rfl)
set_option maxRecDepth 100000 in
theorem wd_48 : Cond.fieldLinkNest "AntTrails" 144 "AntTrails$Way" "length" "I" "AntTrails" ∈ lw_tbl := mt1 (List.mem_of_getElem? (i := 35) rfl)
set_option maxRecDepth 100000 in
theorem wd_49 : Cond.fieldLinkNest "AntTrails$Ground" 148 "AntTrails$Way" "length" "I" "AntTrails" ∈ lw_tbl := mt1 (List.mem_of_getElem? (i := 36) rfl)
set_option maxRecDepth 100000 in
theorem wd_50 : Cond.fieldLink "AntTrails$Way" 22 "AntTrails$Way" "pathSet" "I" ∈ lw_tbl := mt1 (List.mem_of_getElem? (i := 37) rfl)
set_option maxRecDepth 100000 in
theorem wd_51 : Cond.fieldLinkNest "AntTrails" 154 "AntTrails$Way" "pathSet" "I" "AntTrails" ∈ lw_tbl := mt1 (List.mem_of_getElem? (i := 38) rfl)
set_option maxRecDepth 100000 in
theorem wd_52 : Cond.fieldLink "AntTrails$Way" 25 "AntTrails$Way" "placeSet" "I" ∈ lw_tbl := mt1 (List.mem_of_getElem? (i := 39) rfl)
set_option maxRecDepth 100000 in
theorem wd_53 : Cond.laysFinal "AntTrails$Way" "AntTrails$Way" "places" "[I" ∈ lw_tbl := mt1 (List.mem_of_getElem? (i := 40) rfl)
set_option maxRecDepth 100000 in
theorem wd_55 : Cond.lays "AntTrails$Way" "AntTrails$Way" "steps" "I" ∈ lw_tbl := mt1 (List.mem_of_getElem? (i := 42) rfl)
set_option maxRecDepth 100000 in
theorem wd_57 : Cond.lays "AntTrails$Way" "AntTrails$Way" "length" "I" ∈ lw_tbl := mt1 (List.mem_of_getElem? (i := 44) rfl)
set_option maxRecDepth 100000 in
theorem wd_59 : Cond.lays "AntTrails$Way" "AntTrails$Way" "pathSet" "I" ∈ lw_tbl := mt1 (List.mem_of_getElem? (i := 46) rfl)
set_option maxRecDepth 100000 in
theorem wd_61 : Cond.lays "AntTrails$Way" "AntTrails$Way" "placeSet" "I" ∈ lw_tbl := mt1 (List.mem_of_getElem? (i := 48) rfl)
set_option maxRecDepth 100000 in
theorem wd_64 : Cond.arrayClass .int ∈ lw_tbl := mt1 (List.mem_of_getElem? (i := 51) rfl)
set_option maxRecDepth 100000 in
theorem wd_65 : Cond.fieldLinkNest "AntTrails$Ground" 68 "AntTrails" "AT_FIRST" "[I" "AntTrails" ∈ lw_tbl := mt1 (List.mem_of_getElem? (i := 52) rfl)
set_option maxRecDepth 100000 in
theorem wd_66 : Cond.laysStatic "AntTrails" "AT_FIRST" "[I" ∈ lw_tbl := mt1 (List.mem_of_getElem? (i := 53) rfl)
set_option maxRecDepth 100000 in
theorem wd_67 : Cond.methodLinkNest "AntTrails$Ground" 71 ⟨"AntTrails", "copyRow", "([I[I)V"⟩ "AntTrails" ∈ lw_tbl := mt1 (List.mem_of_getElem? (i := 54) rfl)
set_option maxRecDepth 100000 in
theorem wd_68 : Cond.static ⟨"AntTrails", "copyRow", "([I[I)V"⟩ ∈ lw_tbl := mt1 (List.mem_of_getElem? (i := 55) rfl)
set_option maxRecDepth 100000 in
theorem wd_69 : Cond.code ⟨"AntTrails", "copyRow", "([I[I)V"⟩ prog_1_method_27_code 3 none ∈ lw_tbl := mt1 (List.mem_of_getElem? (i := 56) rfl)
set_option maxRecDepth 100000 in
theorem wd_70 : Cond.fieldLink "AntTrails$Ground" 9 "AntTrails$Ground" "placeCount" "I" ∈ lw_tbl := mt1 (List.mem_of_getElem? (i := 57) rfl)
set_option maxRecDepth 100000 in
theorem wd_71 : Cond.fieldLinkNest "AntTrails$Survey" 30 "AntTrails$Ground" "placeCount" "I" "AntTrails" ∈ lw_tbl := mt1 (List.mem_of_getElem? (i := 58) rfl)
set_option maxRecDepth 100000 in
theorem wd_72 : Cond.fieldLinkNest "AntTrails" 207 "AntTrails$Ground" "placeCount" "I" "AntTrails" ∈ lw_tbl := mt1 (List.mem_of_getElem? (i := 59) rfl)
set_option maxRecDepth 100000 in
theorem wd_73 : Cond.fieldLink "AntTrails$Ground" 15 "AntTrails$Ground" "came" "[I" ∈ lw_tbl := mt1 (List.mem_of_getElem? (i := 60) rfl)
set_option maxRecDepth 100000 in
theorem wd_74 : Cond.fieldLinkNest "AntTrails" 123 "AntTrails$Ground" "came" "[I" "AntTrails" ∈ lw_tbl := mt1 (List.mem_of_getElem? (i := 61) rfl)
set_option maxRecDepth 100000 in
theorem wd_75 : Cond.fieldLink "AntTrails$Ground" 19 "AntTrails$Ground" "stuckAt" "[I" ∈ lw_tbl := mt1 (List.mem_of_getElem? (i := 62) rfl)
set_option maxRecDepth 100000 in
theorem wd_76 : Cond.fieldLinkNest "AntTrails" 126 "AntTrails$Ground" "stuckAt" "[I" "AntTrails" ∈ lw_tbl := mt1 (List.mem_of_getElem? (i := 63) rfl)
set_option maxRecDepth 100000 in
theorem wd_77 : Cond.fieldLink "AntTrails$Ground" 22 "AntTrails$Ground" "pathCount" "I" ∈ lw_tbl := mt1 (List.mem_of_getElem? (i := 64) rfl)
set_option maxRecDepth 100000 in
theorem wd_78 : Cond.fieldLinkNest "AntTrails$Survey" 34 "AntTrails$Ground" "pathCount" "I" "AntTrails" ∈ lw_tbl := mt1 (List.mem_of_getElem? (i := 65) rfl)
set_option maxRecDepth 100000 in
theorem wd_79 : Cond.fieldLinkNest "AntTrails$Colony" 113 "AntTrails$Ground" "pathCount" "I" "AntTrails" ∈ lw_tbl := mt1 (List.mem_of_getElem? (i := 66) rfl)
set_option maxRecDepth 100000 in
theorem wd_80 : Cond.fieldLinkNest "AntTrails" 210 "AntTrails$Ground" "pathCount" "I" "AntTrails" ∈ lw_tbl := mt1 (List.mem_of_getElem? (i := 67) rfl)
set_option maxRecDepth 100000 in
theorem wd_81 : Cond.fieldLink "AntTrails$Ground" 25 "AntTrails$Ground" "oneEnd" "[I" ∈ lw_tbl := mt1 (List.mem_of_getElem? (i := 68) rfl)
set_option maxRecDepth 100000 in
theorem wd_82 : Cond.fieldLinkNest "AntTrails$Survey" 47 "AntTrails$Ground" "oneEnd" "[I" "AntTrails" ∈ lw_tbl := mt1 (List.mem_of_getElem? (i := 69) rfl)
set_option maxRecDepth 100000 in
theorem wd_83 : Cond.fieldLinkNest "AntTrails" 86 "AntTrails$Ground" "oneEnd" "[I" "AntTrails" ∈ lw_tbl := mt1 (List.mem_of_getElem? (i := 70) rfl)
set_option maxRecDepth 100000 in
theorem wd_84 : Cond.fieldLink "AntTrails$Ground" 28 "AntTrails$Ground" "otherEnd" "[I" ∈ lw_tbl := mt1 (List.mem_of_getElem? (i := 71) rfl)
set_option maxRecDepth 100000 in
theorem wd_85 : Cond.fieldLinkNest "AntTrails$Survey" 50 "AntTrails$Ground" "otherEnd" "[I" "AntTrails" ∈ lw_tbl := mt1 (List.mem_of_getElem? (i := 72) rfl)
set_option maxRecDepth 100000 in
theorem wd_86 : Cond.fieldLinkNest "AntTrails" 90 "AntTrails$Ground" "otherEnd" "[I" "AntTrails" ∈ lw_tbl := mt1 (List.mem_of_getElem? (i := 73) rfl)
set_option maxRecDepth 100000 in
theorem wd_87 : Cond.fieldLink "AntTrails$Ground" 31 "AntTrails$Ground" "lengths" "[I" ∈ lw_tbl := mt1 (List.mem_of_getElem? (i := 74) rfl)
set_option maxRecDepth 100000 in
theorem wd_88 : Cond.fieldLinkNest "AntTrails$Survey" 57 "AntTrails$Ground" "lengths" "[I" "AntTrails" ∈ lw_tbl := mt1 (List.mem_of_getElem? (i := 75) rfl)
set_option maxRecDepth 100000 in
theorem wd_89 : Cond.fieldLinkNest "AntTrails" 93 "AntTrails$Ground" "lengths" "[I" "AntTrails" ∈ lw_tbl := mt1 (List.mem_of_getElem? (i := 76) rfl)
set_option maxRecDepth 100000 in
theorem wd_90 : Cond.fieldLink "AntTrails$Ground" 34 "AntTrails$Ground" "trails" "[I" ∈ lw_tbl := mt1 (List.mem_of_getElem? (i := 77) rfl)
set_option maxRecDepth 100000 in
theorem wd_91 : Cond.fieldLinkNest "AntTrails$Survey" 98 "AntTrails$Ground" "trails" "[I" "AntTrails" ∈ lw_tbl := mt1 (List.mem_of_getElem? (i := 78) rfl)
set_option maxRecDepth 100000 in
theorem wd_92 : Cond.fieldLinkNest "AntTrails" 96 "AntTrails$Ground" "trails" "[I" "AntTrails" ∈ lw_tbl := mt1 (List.mem_of_getElem? (i := 79) rfl)
set_option maxRecDepth 100000 in
theorem wd_93 : Cond.fieldLink "AntTrails$Ground" 37 "AntTrails$Ground" "walked" "[I" ∈ lw_tbl := mt1 (List.mem_of_getElem? (i := 80) rfl)
set_option maxRecDepth 100000 in
theorem wd_94 : Cond.fieldLinkNest "AntTrails" 105 "AntTrails$Ground" "walked" "[I" "AntTrails" ∈ lw_tbl := mt1 (List.mem_of_getElem? (i := 81) rfl)
set_option maxRecDepth 100000 in
theorem wd_95 : Cond.fieldLink "AntTrails$Ground" 40 "AntTrails$Ground" "closed" "[I" ∈ lw_tbl := mt1 (List.mem_of_getElem? (i := 82) rfl)
set_option maxRecDepth 100000 in
theorem wd_96 : Cond.fieldLink "AntTrails$Ground" 43 "AntTrails$Ground" "food" "I" ∈ lw_tbl := mt1 (List.mem_of_getElem? (i := 83) rfl)
set_option maxRecDepth 100000 in
theorem wd_97 : Cond.fieldLinkNest "AntTrails$Survey" 73 "AntTrails$Ground" "food" "I" "AntTrails" ∈ lw_tbl := mt1 (List.mem_of_getElem? (i := 84) rfl)
set_option maxRecDepth 100000 in
theorem wd_98 : Cond.fieldLinkNest "AntTrails$Colony" 86 "AntTrails$Ground" "food" "I" "AntTrails" ∈ lw_tbl := mt1 (List.mem_of_getElem? (i := 85) rfl)
set_option maxRecDepth 100000 in
theorem wd_99 : Cond.fieldLinkNest "AntTrails" 183 "AntTrails$Ground" "food" "I" "AntTrails" ∈ lw_tbl := mt1 (List.mem_of_getElem? (i := 86) rfl)
set_option maxRecDepth 100000 in
theorem wd_100 : Cond.fieldLink "AntTrails$Ground" 46 "AntTrails$Ground" "x" "I" ∈ lw_tbl := mt1 (List.mem_of_getElem? (i := 87) rfl)
set_option maxRecDepth 100000 in
theorem wd_101 : Cond.fieldLinkNest "AntTrails" 222 "AntTrails$Ground" "x" "I" "AntTrails" ∈ lw_tbl := mt1 (List.mem_of_getElem? (i := 88) rfl)
set_option maxRecDepth 100000 in
theorem wd_102 : Cond.fieldLink "AntTrails$Ground" 49 "AntTrails$Ground" "settings" "[I" ∈ lw_tbl := mt1 (List.mem_of_getElem? (i := 89) rfl)
set_option maxRecDepth 100000 in
theorem wd_103 : Cond.fieldLink "AntTrails$Ground" 52 "AntTrails$Ground" "laps" "I" ∈ lw_tbl := mt1 (List.mem_of_getElem? (i := 90) rfl)
set_option maxRecDepth 100000 in
theorem wd_104 : Cond.fieldLinkNest "AntTrails$Colony" 71 "AntTrails$Ground" "laps" "I" "AntTrails" ∈ lw_tbl := mt1 (List.mem_of_getElem? (i := 91) rfl)
set_option maxRecDepth 100000 in
theorem wd_105 : Cond.fieldLinkNest "AntTrails" 216 "AntTrails$Ground" "laps" "I" "AntTrails" ∈ lw_tbl := mt1 (List.mem_of_getElem? (i := 92) rfl)
set_option maxRecDepth 100000 in
theorem wd_106 : Cond.fieldLink "AntTrails$Ground" 55 "AntTrails$Ground" "ended" "[I" ∈ lw_tbl := mt1 (List.mem_of_getElem? (i := 93) rfl)
set_option maxRecDepth 100000 in
theorem wd_107 : Cond.fieldLinkNest "AntTrails$Colony" 37 "AntTrails$Ground" "ended" "[I" "AntTrails" ∈ lw_tbl := mt1 (List.mem_of_getElem? (i := 94) rfl)
set_option maxRecDepth 100000 in
theorem wd_108 : Cond.fieldLinkNest "AntTrails" 198 "AntTrails$Ground" "ended" "[I" "AntTrails" ∈ lw_tbl := mt1 (List.mem_of_getElem? (i := 95) rfl)
set_option maxRecDepth 100000 in
theorem wd_109 : Cond.fieldLink "AntTrails$Ground" 61 "AntTrails$Ground" "best" "LAntTrails$Way;" ∈ lw_tbl := mt1 (List.mem_of_getElem? (i := 96) rfl)
set_option maxRecDepth 100000 in
theorem wd_110 : Cond.fieldLinkNest "AntTrails" 108 "AntTrails$Ground" "best" "LAntTrails$Way;" "AntTrails" ∈ lw_tbl := mt1 (List.mem_of_getElem? (i := 97) rfl)
set_option maxRecDepth 100000 in
theorem wd_111 : Cond.fieldLink "AntTrails$Ground" 65 "AntTrails$Ground" "bestLap" "I" ∈ lw_tbl := mt1 (List.mem_of_getElem? (i := 98) rfl)
set_option maxRecDepth 100000 in
theorem wd_112 : Cond.fieldLinkNest "AntTrails" 151 "AntTrails$Ground" "bestLap" "I" "AntTrails" ∈ lw_tbl := mt1 (List.mem_of_getElem? (i := 99) rfl)
set_option maxRecDepth 100000 in
theorem wd_113 : Cond.lays "AntTrails$Ground" "AntTrails$Ground" "placeCount" "I" ∈ lw_tbl := mt1 (List.mem_of_getElem? (i := 100) rfl)
set_option maxRecDepth 100000 in
theorem wd_115 : Cond.laysFinal "AntTrails$Ground" "AntTrails$Ground" "came" "[I" ∈ lw_tbl := mt1 (List.mem_of_getElem? (i := 102) rfl)
set_option maxRecDepth 100000 in
theorem wd_117 : Cond.laysFinal "AntTrails$Ground" "AntTrails$Ground" "stuckAt" "[I" ∈ lw_tbl := mt1 (List.mem_of_getElem? (i := 104) rfl)
set_option maxRecDepth 100000 in
theorem wd_119 : Cond.lays "AntTrails$Ground" "AntTrails$Ground" "pathCount" "I" ∈ lw_tbl := mt1 (List.mem_of_getElem? (i := 106) rfl)
set_option maxRecDepth 100000 in
theorem wd_121 : Cond.laysFinal "AntTrails$Ground" "AntTrails$Ground" "oneEnd" "[I" ∈ lw_tbl := mt1 (List.mem_of_getElem? (i := 108) rfl)
set_option maxRecDepth 100000 in
theorem wd_123 : Cond.laysFinal "AntTrails$Ground" "AntTrails$Ground" "otherEnd" "[I" ∈ lw_tbl := mt1 (List.mem_of_getElem? (i := 110) rfl)
set_option maxRecDepth 100000 in
theorem wd_125 : Cond.laysFinal "AntTrails$Ground" "AntTrails$Ground" "lengths" "[I" ∈ lw_tbl := mt1 (List.mem_of_getElem? (i := 112) rfl)
set_option maxRecDepth 100000 in
theorem wd_127 : Cond.laysFinal "AntTrails$Ground" "AntTrails$Ground" "trails" "[I" ∈ lw_tbl := mt1 (List.mem_of_getElem? (i := 114) rfl)
set_option maxRecDepth 100000 in
theorem wd_129 : Cond.laysFinal "AntTrails$Ground" "AntTrails$Ground" "walked" "[I" ∈ lw_tbl := mt1 (List.mem_of_getElem? (i := 116) rfl)
set_option maxRecDepth 100000 in
theorem wd_131 : Cond.laysFinal "AntTrails$Ground" "AntTrails$Ground" "closed" "[I" ∈ lw_tbl := mt1 (List.mem_of_getElem? (i := 118) rfl)
set_option maxRecDepth 100000 in
theorem wd_133 : Cond.lays "AntTrails$Ground" "AntTrails$Ground" "food" "I" ∈ lw_tbl := mt1 (List.mem_of_getElem? (i := 120) rfl)
set_option maxRecDepth 100000 in
theorem wd_135 : Cond.lays "AntTrails$Ground" "AntTrails$Ground" "x" "I" ∈ lw_tbl := mt1 (List.mem_of_getElem? (i := 122) rfl)
set_option maxRecDepth 100000 in
theorem wd_137 : Cond.laysFinal "AntTrails$Ground" "AntTrails$Ground" "settings" "[I" ∈ lw_tbl := mt1 (List.mem_of_getElem? (i := 124) rfl)
set_option maxRecDepth 100000 in
theorem wd_139 : Cond.lays "AntTrails$Ground" "AntTrails$Ground" "laps" "I" ∈ lw_tbl := mt1 (List.mem_of_getElem? (i := 126) rfl)
set_option maxRecDepth 100000 in
theorem wd_141 : Cond.laysFinal "AntTrails$Ground" "AntTrails$Ground" "ended" "[I" ∈ lw_tbl := mt1 (List.mem_of_getElem? (i := 128) rfl)
set_option maxRecDepth 100000 in
theorem wd_143 : Cond.laysFinal "AntTrails$Ground" "AntTrails$Ground" "best" "LAntTrails$Way;" ∈ lw_tbl := mt1 (List.mem_of_getElem? (i := 130) rfl)
set_option maxRecDepth 100000 in
theorem wd_145 : Cond.lays "AntTrails$Ground" "AntTrails$Ground" "bestLap" "I" ∈ lw_tbl := mt1 (List.mem_of_getElem? (i := 132) rfl)
set_option maxRecDepth 100000 in
theorem wd_148 : Cond.classLink "AntTrails" 19 "AntTrails$History" ∈ lw_tbl := mt1 (List.mem_of_getElem? (i := 135) rfl)
set_option maxRecDepth 100000 in
theorem wd_149 : Cond.instantiable "AntTrails$History" 2 ∈ lw_tbl := mt1 (List.mem_of_getElem? (i := 136) rfl)
set_option maxRecDepth 100000 in
theorem wd_150 : Cond.methodLink "AntTrails" 21 ⟨"AntTrails$History", "<init>", "()V"⟩ ∈ lw_tbl := mt1 (List.mem_of_getElem? (i := 137) rfl)
set_option maxRecDepth 100000 in
theorem wd_151 : Cond.instanceMethod ⟨"AntTrails$History", "<init>", "()V"⟩ ∈ lw_tbl := mt1 (List.mem_of_getElem? (i := 138) rfl)
set_option maxRecDepth 100000 in
theorem wd_152 : Cond.code ⟨"AntTrails$History", "<init>", "()V"⟩ prog_4_method_1_code 2 none ∈ lw_tbl := mt1 (List.mem_of_getElem? (i := 139) rfl)
set_option maxRecDepth 100000 in
theorem wd_153 : Cond.methodLink "AntTrails$History" 3 ⟨"java/lang/Object", "<init>", "()V"⟩ ∈ lw_tbl := mt1 (List.mem_of_getElem? (i := 140) rfl)
set_option maxRecDepth 100000 in
theorem wd_154 : Cond.classLink "AntTrails$History" 9 "AntTrails$Ground" ∈ lw_tbl := mt1 (List.mem_of_getElem? (i := 141) rfl)
set_option maxRecDepth 100000 in
theorem wd_155 : Cond.arrayOver (.object "AntTrails$Ground") ∈ lw_tbl := mt1 (List.mem_of_getElem? (i := 142) rfl)
set_option maxRecDepth 100000 in
theorem wd_156 : Cond.methodLink "AntTrails$History" 21 ⟨"AntTrails$Ground", "<init>", "()V"⟩ ∈ lw_tbl := mt1 (List.mem_of_getElem? (i := 143) rfl)
set_option maxRecDepth 100000 in
theorem wd_157 : Cond.fieldLink "AntTrails$History" 11 "AntTrails$History" "states" "[LAntTrails$Ground;" ∈ lw_tbl := mt1 (List.mem_of_getElem? (i := 144) rfl)
set_option maxRecDepth 100000 in
theorem wd_158 : Cond.fieldLink "AntTrails$History" 17 "AntTrails$History" "kept" "I" ∈ lw_tbl := mt1 (List.mem_of_getElem? (i := 145) rfl)
set_option maxRecDepth 100000 in
theorem wd_159 : Cond.fieldLinkNest "AntTrails" 225 "AntTrails$History" "kept" "I" "AntTrails" ∈ lw_tbl := mt1 (List.mem_of_getElem? (i := 146) rfl)
set_option maxRecDepth 100000 in
theorem wd_160 : Cond.laysFinal "AntTrails$History" "AntTrails$History" "states" "[LAntTrails$Ground;" ∈ lw_tbl := mt1 (List.mem_of_getElem? (i := 147) rfl)
set_option maxRecDepth 100000 in
theorem wd_162 : Cond.lays "AntTrails$History" "AntTrails$History" "kept" "I" ∈ lw_tbl := mt1 (List.mem_of_getElem? (i := 149) rfl)
set_option maxRecDepth 100000 in
theorem wd_165 : Cond.classLink "AntTrails" 26 "AntTrails$Colony" ∈ lw_tbl := mt1 (List.mem_of_getElem? (i := 152) rfl)
set_option maxRecDepth 100000 in
theorem wd_166 : Cond.instantiable "AntTrails$Colony" 3 ∈ lw_tbl := mt1 (List.mem_of_getElem? (i := 153) rfl)
set_option maxRecDepth 100000 in
theorem wd_167 : Cond.methodLinkNest "AntTrails" 28 ⟨"AntTrails$Colony", "<init>", "()V"⟩ "AntTrails" ∈ lw_tbl := mt1 (List.mem_of_getElem? (i := 154) rfl)
set_option maxRecDepth 100000 in
theorem wd_168 : Cond.instanceMethod ⟨"AntTrails$Colony", "<init>", "()V"⟩ ∈ lw_tbl := mt1 (List.mem_of_getElem? (i := 155) rfl)
set_option maxRecDepth 100000 in
theorem wd_169 : Cond.code ⟨"AntTrails$Colony", "<init>", "()V"⟩ prog_2_method_1_code 1 none ∈ lw_tbl := mt1 (List.mem_of_getElem? (i := 156) rfl)
set_option maxRecDepth 100000 in
theorem wd_170 : Cond.methodLink "AntTrails$Colony" 3 ⟨"java/lang/Object", "<init>", "()V"⟩ ∈ lw_tbl := mt1 (List.mem_of_getElem? (i := 157) rfl)
set_option maxRecDepth 100000 in
theorem wd_171 : Cond.classLink "AntTrails$Colony" 9 "AntTrails$Way" ∈ lw_tbl := mt1 (List.mem_of_getElem? (i := 158) rfl)
set_option maxRecDepth 100000 in
theorem wd_172 : Cond.methodLinkNest "AntTrails$Colony" 11 ⟨"AntTrails$Way", "<init>", "()V"⟩ "AntTrails" ∈ lw_tbl := mt1 (List.mem_of_getElem? (i := 159) rfl)
set_option maxRecDepth 100000 in
theorem wd_173 : Cond.fieldLink "AntTrails$Colony" 12 "AntTrails$Colony" "way" "LAntTrails$Way;" ∈ lw_tbl := mt1 (List.mem_of_getElem? (i := 160) rfl)
set_option maxRecDepth 100000 in
theorem wd_174 : Cond.fieldLinkNest "AntTrails" 194 "AntTrails$Colony" "way" "LAntTrails$Way;" "AntTrails" ∈ lw_tbl := mt1 (List.mem_of_getElem? (i := 161) rfl)
set_option maxRecDepth 100000 in
theorem wd_175 : Cond.fieldLink "AntTrails$Colony" 18 "AntTrails$Colony" "laid" "[I" ∈ lw_tbl := mt1 (List.mem_of_getElem? (i := 162) rfl)
set_option maxRecDepth 100000 in
theorem wd_176 : Cond.fieldLink "AntTrails$Colony" 22 "AntTrails$Colony" "weights" "[I" ∈ lw_tbl := mt1 (List.mem_of_getElem? (i := 163) rfl)
set_option maxRecDepth 100000 in
theorem wd_177 : Cond.laysFinal "AntTrails$Colony" "AntTrails$Colony" "way" "LAntTrails$Way;" ∈ lw_tbl := mt1 (List.mem_of_getElem? (i := 164) rfl)
set_option maxRecDepth 100000 in
theorem wd_179 : Cond.laysFinal "AntTrails$Colony" "AntTrails$Colony" "laid" "[I" ∈ lw_tbl := mt1 (List.mem_of_getElem? (i := 166) rfl)
set_option maxRecDepth 100000 in
theorem wd_181 : Cond.laysFinal "AntTrails$Colony" "AntTrails$Colony" "weights" "[I" ∈ lw_tbl := mt1 (List.mem_of_getElem? (i := 168) rfl)
set_option maxRecDepth 100000 in
theorem wd_184 : Cond.classLink "AntTrails" 33 "AntTrails$Survey" ∈ lw_tbl := mt1 (List.mem_of_getElem? (i := 171) rfl)
set_option maxRecDepth 100000 in
theorem wd_185 : Cond.instantiable "AntTrails$Survey" 2 ∈ lw_tbl := mt1 (List.mem_of_getElem? (i := 172) rfl)
set_option maxRecDepth 100000 in
theorem wd_186 : Cond.methodLinkNest "AntTrails" 35 ⟨"AntTrails$Survey", "<init>", "()V"⟩ "AntTrails" ∈ lw_tbl := mt1 (List.mem_of_getElem? (i := 173) rfl)
set_option maxRecDepth 100000 in
theorem wd_187 : Cond.instanceMethod ⟨"AntTrails$Survey", "<init>", "()V"⟩ ∈ lw_tbl := mt1 (List.mem_of_getElem? (i := 174) rfl)
set_option maxRecDepth 100000 in
theorem wd_188 : Cond.code ⟨"AntTrails$Survey", "<init>", "()V"⟩ prog_6_method_1_code 1 none ∈ lw_tbl := mt1 (List.mem_of_getElem? (i := 175) rfl)
set_option maxRecDepth 100000 in
theorem wd_189 : Cond.methodLink "AntTrails$Survey" 3 ⟨"java/lang/Object", "<init>", "()V"⟩ ∈ lw_tbl := mt1 (List.mem_of_getElem? (i := 176) rfl)
set_option maxRecDepth 100000 in
theorem wd_190 : Cond.classLink "AntTrails$Survey" 15 "AntTrails$Way" ∈ lw_tbl := mt1 (List.mem_of_getElem? (i := 177) rfl)
set_option maxRecDepth 100000 in
theorem wd_191 : Cond.methodLinkNest "AntTrails$Survey" 17 ⟨"AntTrails$Way", "<init>", "()V"⟩ "AntTrails" ∈ lw_tbl := mt1 (List.mem_of_getElem? (i := 178) rfl)
set_option maxRecDepth 100000 in
theorem wd_192 : Cond.fieldLink "AntTrails$Survey" 9 "AntTrails$Survey" "far" "[I" ∈ lw_tbl := mt1 (List.mem_of_getElem? (i := 179) rfl)
set_option maxRecDepth 100000 in
theorem wd_193 : Cond.fieldLink "AntTrails$Survey" 18 "AntTrails$Survey" "way" "LAntTrails$Way;" ∈ lw_tbl := mt1 (List.mem_of_getElem? (i := 180) rfl)
set_option maxRecDepth 100000 in
theorem wd_194 : Cond.fieldLinkNest "AntTrails" 177 "AntTrails$Survey" "way" "LAntTrails$Way;" "AntTrails" ∈ lw_tbl := mt1 (List.mem_of_getElem? (i := 181) rfl)
set_option maxRecDepth 100000 in
theorem wd_195 : Cond.laysFinal "AntTrails$Survey" "AntTrails$Survey" "far" "[I" ∈ lw_tbl := mt1 (List.mem_of_getElem? (i := 182) rfl)
set_option maxRecDepth 100000 in
theorem wd_197 : Cond.laysFinal "AntTrails$Survey" "AntTrails$Survey" "way" "LAntTrails$Way;" ∈ lw_tbl := mt1 (List.mem_of_getElem? (i := 184) rfl)
set_option maxRecDepth 100000 in
theorem wd_200 : Cond.classLink "AntTrails" 40 "AntTrails$Orders" ∈ lw_tbl := mt1 (List.mem_of_getElem? (i := 187) rfl)
set_option maxRecDepth 100000 in
theorem wd_201 : Cond.instantiable "AntTrails$Orders" 8 ∈ lw_tbl := mt1 (List.mem_of_getElem? (i := 188) rfl)
set_option maxRecDepth 100000 in
theorem wd_202 : Cond.methodLinkNest "AntTrails" 42 ⟨"AntTrails$Orders", "<init>", "()V"⟩ "AntTrails" ∈ lw_tbl := mt1 (List.mem_of_getElem? (i := 189) rfl)
set_option maxRecDepth 100000 in
theorem wd_203 : Cond.instanceMethod ⟨"AntTrails$Orders", "<init>", "()V"⟩ ∈ lw_tbl := mt1 (List.mem_of_getElem? (i := 190) rfl)
set_option maxRecDepth 100000 in
theorem wd_204 : Cond.code ⟨"AntTrails$Orders", "<init>", "()V"⟩ prog_5_method_1_code 1 none ∈ lw_tbl := mt1 (List.mem_of_getElem? (i := 191) rfl)
set_option maxRecDepth 100000 in
theorem wd_205 : Cond.methodLink "AntTrails$Orders" 3 ⟨"java/lang/Object", "<init>", "()V"⟩ ∈ lw_tbl := mt1 (List.mem_of_getElem? (i := 192) rfl)
set_option maxRecDepth 100000 in
theorem wd_206 : Cond.fieldLink "AntTrails$Orders" 9 "AntTrails$Orders" "signs" "[C" ∈ lw_tbl := mt1 (List.mem_of_getElem? (i := 193) rfl)
set_option maxRecDepth 100000 in
theorem wd_207 : Cond.fieldLink "AntTrails$Orders" 15 "AntTrails$Orders" "length" "I" ∈ lw_tbl := mt1 (List.mem_of_getElem? (i := 194) rfl)
set_option maxRecDepth 100000 in
theorem wd_208 : Cond.fieldLinkNest "AntTrails" 228 "AntTrails$Orders" "length" "I" "AntTrails" ∈ lw_tbl := mt1 (List.mem_of_getElem? (i := 195) rfl)
set_option maxRecDepth 100000 in
theorem wd_209 : Cond.fieldLink "AntTrails$Orders" 19 "AntTrails$Orders" "kind" "I" ∈ lw_tbl := mt1 (List.mem_of_getElem? (i := 196) rfl)
set_option maxRecDepth 100000 in
theorem wd_210 : Cond.fieldLink "AntTrails$Orders" 22 "AntTrails$Orders" "numbers" "[I" ∈ lw_tbl := mt1 (List.mem_of_getElem? (i := 197) rfl)
set_option maxRecDepth 100000 in
theorem wd_211 : Cond.fieldLink "AntTrails$Orders" 26 "AntTrails$Orders" "at" "I" ∈ lw_tbl := mt1 (List.mem_of_getElem? (i := 198) rfl)
set_option maxRecDepth 100000 in
theorem wd_212 : Cond.fieldLink "AntTrails$Orders" 29 "AntTrails$Orders" "faultReason" "I" ∈ lw_tbl := mt1 (List.mem_of_getElem? (i := 199) rfl)
set_option maxRecDepth 100000 in
theorem wd_213 : Cond.fieldLinkNest "AntTrails" 242 "AntTrails$Orders" "faultReason" "I" "AntTrails" ∈ lw_tbl := mt1 (List.mem_of_getElem? (i := 200) rfl)
set_option maxRecDepth 100000 in
theorem wd_214 : Cond.fieldLink "AntTrails$Orders" 32 "AntTrails$Orders" "faultPosition" "I" ∈ lw_tbl := mt1 (List.mem_of_getElem? (i := 201) rfl)
set_option maxRecDepth 100000 in
theorem wd_215 : Cond.fieldLinkNest "AntTrails" 245 "AntTrails$Orders" "faultPosition" "I" "AntTrails" ∈ lw_tbl := mt1 (List.mem_of_getElem? (i := 202) rfl)
set_option maxRecDepth 100000 in
theorem wd_216 : Cond.fieldLink "AntTrails$Orders" 35 "AntTrails$Orders" "faultCause" "I" ∈ lw_tbl := mt1 (List.mem_of_getElem? (i := 203) rfl)
set_option maxRecDepth 100000 in
theorem wd_217 : Cond.fieldLinkNest "AntTrails" 248 "AntTrails$Orders" "faultCause" "I" "AntTrails" ∈ lw_tbl := mt1 (List.mem_of_getElem? (i := 204) rfl)
set_option maxRecDepth 100000 in
theorem wd_218 : Cond.laysFinal "AntTrails$Orders" "AntTrails$Orders" "signs" "[C" ∈ lw_tbl := mt1 (List.mem_of_getElem? (i := 205) rfl)
set_option maxRecDepth 100000 in
theorem wd_220 : Cond.lays "AntTrails$Orders" "AntTrails$Orders" "length" "I" ∈ lw_tbl := mt1 (List.mem_of_getElem? (i := 207) rfl)
set_option maxRecDepth 100000 in
theorem wd_222 : Cond.lays "AntTrails$Orders" "AntTrails$Orders" "kind" "I" ∈ lw_tbl := mt1 (List.mem_of_getElem? (i := 209) rfl)
set_option maxRecDepth 100000 in
theorem wd_224 : Cond.laysFinal "AntTrails$Orders" "AntTrails$Orders" "numbers" "[I" ∈ lw_tbl := mt1 (List.mem_of_getElem? (i := 211) rfl)
set_option maxRecDepth 100000 in
theorem wd_226 : Cond.lays "AntTrails$Orders" "AntTrails$Orders" "at" "I" ∈ lw_tbl := mt1 (List.mem_of_getElem? (i := 213) rfl)
set_option maxRecDepth 100000 in
theorem wd_228 : Cond.lays "AntTrails$Orders" "AntTrails$Orders" "faultReason" "I" ∈ lw_tbl := mt1 (List.mem_of_getElem? (i := 215) rfl)
set_option maxRecDepth 100000 in
theorem wd_230 : Cond.lays "AntTrails$Orders" "AntTrails$Orders" "faultPosition" "I" ∈ lw_tbl := mt1 (List.mem_of_getElem? (i := 217) rfl)
set_option maxRecDepth 100000 in
theorem wd_232 : Cond.lays "AntTrails$Orders" "AntTrails$Orders" "faultCause" "I" ∈ lw_tbl := mt1 (List.mem_of_getElem? (i := 219) rfl)
set_option maxRecDepth 100000 in
theorem wd_235 : Cond.arrayClass .char ∈ lw_tbl := mt1 (List.mem_of_getElem? (i := 222) rfl)
set_option maxRecDepth 100000 in
theorem wd_236 : Cond.fieldLink "AntTrails" 10 "AntTrails" "now" "LAntTrails$Ground;" ∈ lw_tbl := mt1 (List.mem_of_getElem? (i := 223) rfl)
set_option maxRecDepth 100000 in
theorem wd_237 : Cond.fieldLink "AntTrails" 16 "AntTrails" "tried" "LAntTrails$Ground;" ∈ lw_tbl := mt1 (List.mem_of_getElem? (i := 224) rfl)
set_option maxRecDepth 100000 in
theorem wd_238 : Cond.fieldLink "AntTrails" 22 "AntTrails" "history" "LAntTrails$History;" ∈ lw_tbl := mt1 (List.mem_of_getElem? (i := 225) rfl)
set_option maxRecDepth 100000 in
theorem wd_239 : Cond.fieldLink "AntTrails" 29 "AntTrails" "colony" "LAntTrails$Colony;" ∈ lw_tbl := mt1 (List.mem_of_getElem? (i := 226) rfl)
set_option maxRecDepth 100000 in
theorem wd_240 : Cond.fieldLink "AntTrails" 36 "AntTrails" "survey" "LAntTrails$Survey;" ∈ lw_tbl := mt1 (List.mem_of_getElem? (i := 227) rfl)
set_option maxRecDepth 100000 in
theorem wd_241 : Cond.fieldLink "AntTrails" 43 "AntTrails" "orders" "LAntTrails$Orders;" ∈ lw_tbl := mt1 (List.mem_of_getElem? (i := 228) rfl)
set_option maxRecDepth 100000 in
theorem wd_242 : Cond.laysFinal "AntTrails" "AntTrails" "now" "LAntTrails$Ground;" ∈ lw_tbl := mt1 (List.mem_of_getElem? (i := 229) rfl)
set_option maxRecDepth 100000 in
theorem wd_244 : Cond.laysFinal "AntTrails" "AntTrails" "tried" "LAntTrails$Ground;" ∈ lw_tbl := mt1 (List.mem_of_getElem? (i := 231) rfl)
set_option maxRecDepth 100000 in
theorem wd_246 : Cond.laysFinal "AntTrails" "AntTrails" "history" "LAntTrails$History;" ∈ lw_tbl := mt1 (List.mem_of_getElem? (i := 233) rfl)
set_option maxRecDepth 100000 in
theorem wd_248 : Cond.laysFinal "AntTrails" "AntTrails" "colony" "LAntTrails$Colony;" ∈ lw_tbl := mt1 (List.mem_of_getElem? (i := 235) rfl)
set_option maxRecDepth 100000 in
theorem wd_250 : Cond.laysFinal "AntTrails" "AntTrails" "survey" "LAntTrails$Survey;" ∈ lw_tbl := mt1 (List.mem_of_getElem? (i := 237) rfl)
set_option maxRecDepth 100000 in
theorem wd_252 : Cond.laysFinal "AntTrails" "AntTrails" "orders" "LAntTrails$Orders;" ∈ lw_tbl := mt1 (List.mem_of_getElem? (i := 239) rfl)
set_option maxRecDepth 100000 in
theorem wd_255 : Cond.methodLink "AntTrailsLaw" 13 ⟨"AntTrails", "count", "(I)I"⟩ ∈ lw_tbl := mt2 (List.mem_of_getElem? (i := 2) rfl)
set_option maxRecDepth 100000 in
theorem wd_256 : Cond.instanceMethod ⟨"AntTrails", "count", "(I)I"⟩ ∈ lw_tbl := mt2 (List.mem_of_getElem? (i := 3) rfl)
set_option maxRecDepth 100000 in
theorem wd_257 : Cond.selects "AntTrails" ⟨"AntTrails", "count", "(I)I"⟩ ⟨"AntTrails", "count", "(I)I"⟩ ∈ lw_tbl := mt2 (List.mem_of_getElem? (i := 4) rfl)
set_option maxRecDepth 100000 in
theorem wd_258 : Cond.code ⟨"AntTrails", "count", "(I)I"⟩ prog_1_method_18_code 2 (some .int) ∈ lw_tbl := mt2 (List.mem_of_getElem? (i := 5) rfl)
set_option maxRecDepth 100000 in
theorem wd_259 : Cond.methodLink "AntTrails" 139 ⟨"AntTrails", "isWithin", "(III)Z"⟩ ∈ lw_tbl := mt2 (List.mem_of_getElem? (i := 6) rfl)
set_option maxRecDepth 100000 in
theorem wd_260 : Cond.static ⟨"AntTrails", "isWithin", "(III)Z"⟩ ∈ lw_tbl := mt2 (List.mem_of_getElem? (i := 7) rfl)
set_option maxRecDepth 100000 in
theorem wd_261 : Cond.code ⟨"AntTrails", "isWithin", "(III)Z"⟩ prog_1_method_24_code 3 (some .boolean) ∈ lw_tbl := mt2 (List.mem_of_getElem? (i := 8) rfl)
set_option maxRecDepth 100000 in
theorem wd_262 : Cond.methodLink "AntTrails" 204 ⟨"AntTrails$Ground", "setting", "(I)I"⟩ ∈ lw_tbl := mt2 (List.mem_of_getElem? (i := 9) rfl)
set_option maxRecDepth 100000 in
theorem wd_263 : Cond.instanceMethod ⟨"AntTrails$Ground", "setting", "(I)I"⟩ ∈ lw_tbl := mt2 (List.mem_of_getElem? (i := 10) rfl)
set_option maxRecDepth 100000 in
theorem wd_264 : Cond.selects "AntTrails$Ground" ⟨"AntTrails$Ground", "setting", "(I)I"⟩ ⟨"AntTrails$Ground", "setting", "(I)I"⟩ ∈ lw_tbl := mt2 (List.mem_of_getElem? (i := 11) rfl)
set_option maxRecDepth 100000 in
theorem wd_265 : Cond.code ⟨"AntTrails$Ground", "setting", "(I)I"⟩ prog_3_method_8_code 2 (some .int) ∈ lw_tbl := mt2 (List.mem_of_getElem? (i := 12) rfl)
set_option maxRecDepth 100000 in
theorem wd_266 : Cond.methodLink "AntTrails" 213 ⟨"AntTrails$Ground", "openPaths", "()I"⟩ ∈ lw_tbl := mt2 (List.mem_of_getElem? (i := 13) rfl)
set_option maxRecDepth 100000 in
theorem wd_267 : Cond.instanceMethod ⟨"AntTrails$Ground", "openPaths", "()I"⟩ ∈ lw_tbl := mt2 (List.mem_of_getElem? (i := 14) rfl)
set_option maxRecDepth 100000 in
theorem wd_268 : Cond.selects "AntTrails$Ground" ⟨"AntTrails$Ground", "openPaths", "()I"⟩ ⟨"AntTrails$Ground", "openPaths", "()I"⟩ ∈ lw_tbl := mt2 (List.mem_of_getElem? (i := 15) rfl)
set_option maxRecDepth 100000 in
theorem wd_269 : Cond.code ⟨"AntTrails$Ground", "openPaths", "()I"⟩ prog_3_method_12_code 3 (some .int) ∈ lw_tbl := mt2 (List.mem_of_getElem? (i := 16) rfl)
set_option maxRecDepth 100000 in
theorem wd_270 : Cond.methodLink "AntTrails$Ground" 86 ⟨"AntTrails$Ground", "isClosed", "(I)Z"⟩ ∈ lw_tbl := mt2 (List.mem_of_getElem? (i := 17) rfl)
set_option maxRecDepth 100000 in
theorem wd_271 : Cond.instanceMethod ⟨"AntTrails$Ground", "isClosed", "(I)Z"⟩ ∈ lw_tbl := mt2 (List.mem_of_getElem? (i := 18) rfl)
set_option maxRecDepth 100000 in
theorem wd_272 : Cond.selects "AntTrails$Ground" ⟨"AntTrails$Ground", "isClosed", "(I)Z"⟩ ⟨"AntTrails$Ground", "isClosed", "(I)Z"⟩ ∈ lw_tbl := mt2 (List.mem_of_getElem? (i := 19) rfl)
set_option maxRecDepth 100000 in
theorem wd_273 : Cond.code ⟨"AntTrails$Ground", "isClosed", "(I)Z"⟩ prog_3_method_7_code 2 (some .boolean) ∈ lw_tbl := mt2 (List.mem_of_getElem? (i := 20) rfl)
set_option maxRecDepth 100000 in
theorem wd_274 : Cond.methodLink "AntTrails$Ground" 82 ⟨"AntTrails$Ground", "isPath", "(I)Z"⟩ ∈ lw_tbl := mt2 (List.mem_of_getElem? (i := 21) rfl)
set_option maxRecDepth 100000 in
theorem wd_275 : Cond.instanceMethod ⟨"AntTrails$Ground", "isPath", "(I)Z"⟩ ∈ lw_tbl := mt2 (List.mem_of_getElem? (i := 22) rfl)
set_option maxRecDepth 100000 in
theorem wd_276 : Cond.selects "AntTrails$Ground" ⟨"AntTrails$Ground", "isPath", "(I)Z"⟩ ⟨"AntTrails$Ground", "isPath", "(I)Z"⟩ ∈ lw_tbl := mt2 (List.mem_of_getElem? (i := 23) rfl)
set_option maxRecDepth 100000 in
theorem wd_277 : Cond.code ⟨"AntTrails$Ground", "isPath", "(I)Z"⟩ prog_3_method_4_code 2 (some .boolean) ∈ lw_tbl := mt2 (List.mem_of_getElem? (i := 24) rfl)
set_option maxRecDepth 100000 in
theorem wd_278 : Cond.methodLink "AntTrails" 201 ⟨"AntTrails$Ground", "allTrails", "()I"⟩ ∈ lw_tbl := mt2 (List.mem_of_getElem? (i := 25) rfl)
set_option maxRecDepth 100000 in
theorem wd_279 : Cond.instanceMethod ⟨"AntTrails$Ground", "allTrails", "()I"⟩ ∈ lw_tbl := mt2 (List.mem_of_getElem? (i := 26) rfl)
set_option maxRecDepth 100000 in
theorem wd_280 : Cond.selects "AntTrails$Ground" ⟨"AntTrails$Ground", "allTrails", "()I"⟩ ⟨"AntTrails$Ground", "allTrails", "()I"⟩ ∈ lw_tbl := mt2 (List.mem_of_getElem? (i := 27) rfl)
set_option maxRecDepth 100000 in
theorem wd_281 : Cond.code ⟨"AntTrails$Ground", "allTrails", "()I"⟩ prog_3_method_15_code 3 (some .int) ∈ lw_tbl := mt2 (List.mem_of_getElem? (i := 28) rfl)
set_option maxRecDepth 100000 in
theorem wd_282 : Cond.methodLink "AntTrails" 219 ⟨"AntTrails$Ground", "greatestTrail", "()I"⟩ ∈ lw_tbl := mt2 (List.mem_of_getElem? (i := 29) rfl)
set_option maxRecDepth 100000 in
theorem wd_283 : Cond.instanceMethod ⟨"AntTrails$Ground", "greatestTrail", "()I"⟩ ∈ lw_tbl := mt2 (List.mem_of_getElem? (i := 30) rfl)
set_option maxRecDepth 100000 in
theorem wd_284 : Cond.selects "AntTrails$Ground" ⟨"AntTrails$Ground", "greatestTrail", "()I"⟩ ⟨"AntTrails$Ground", "greatestTrail", "()I"⟩ ∈ lw_tbl := mt2 (List.mem_of_getElem? (i := 31) rfl)
set_option maxRecDepth 100000 in
theorem wd_285 : Cond.code ⟨"AntTrails$Ground", "greatestTrail", "()I"⟩ prog_3_method_16_code 3 (some .int) ∈ lw_tbl := mt2 (List.mem_of_getElem? (i := 32) rfl)
set_option maxRecDepth 100000 in
theorem wd_286 : Cond.methodLink "AntTrails$Ground" 97 ⟨"java/lang/Math", "max", "(II)I"⟩ ∈ lw_tbl := mt2 (List.mem_of_getElem? (i := 33) rfl)
set_option maxRecDepth 100000 in
theorem wd_287 : Cond.static ⟨"java/lang/Math", "max", "(II)I"⟩ ∈ lw_tbl := mt2 (List.mem_of_getElem? (i := 34) rfl)
set_option maxRecDepth 100000 in
theorem wd_288 : Cond.code ⟨"java/lang/Math", "max", "(II)I"⟩ prog_10_method_65_code 2 (some .int) ∈ lw_tbl := mt2 (List.mem_of_getElem? (i := 35) rfl)
set_option maxRecDepth 100000 in
theorem wd_289 : Cond.constant "AntTrails" 85 (-1000000001) ∈ lw_tbl := mt2 (List.mem_of_getElem? (i := 36) rfl)
set_option maxRecDepth 100000 in
theorem wd_290 : Cond.methodLink "AntTrailsLaw" 112 ⟨"AntTrails", "undo", "()I"⟩ ∈ lw_tbl := mt2 (List.mem_of_getElem? (i := 37) rfl)
set_option maxRecDepth 100000 in
theorem wd_291 : Cond.instanceMethod ⟨"AntTrails", "undo", "()I"⟩ ∈ lw_tbl := mt2 (List.mem_of_getElem? (i := 38) rfl)
set_option maxRecDepth 100000 in
theorem wd_292 : Cond.selects "AntTrails" ⟨"AntTrails", "undo", "()I"⟩ ⟨"AntTrails", "undo", "()I"⟩ ∈ lw_tbl := mt2 (List.mem_of_getElem? (i := 39) rfl)
set_option maxRecDepth 100000 in
theorem wd_293 : Cond.code ⟨"AntTrails", "undo", "()I"⟩ prog_1_method_19_code 1 (some .int) ∈ lw_tbl := mt2 (List.mem_of_getElem? (i := 40) rfl)
set_option maxRecDepth 100000 in
theorem wd_294 : Cond.methodLink "AntTrails" 229 ⟨"AntTrails$History", "restore", "(LAntTrails$Ground;)I"⟩ ∈ lw_tbl := mt2 (List.mem_of_getElem? (i := 41) rfl)
set_option maxRecDepth 100000 in
theorem wd_295 : Cond.instanceMethod ⟨"AntTrails$History", "restore", "(LAntTrails$Ground;)I"⟩ ∈ lw_tbl := mt2 (List.mem_of_getElem? (i := 42) rfl)
set_option maxRecDepth 100000 in
theorem wd_296 : Cond.selects "AntTrails$History" ⟨"AntTrails$History", "restore", "(LAntTrails$Ground;)I"⟩ ⟨"AntTrails$History", "restore", "(LAntTrails$Ground;)I"⟩ ∈ lw_tbl := mt2 (List.mem_of_getElem? (i := 43) rfl)
set_option maxRecDepth 100000 in
theorem wd_297 : Cond.code ⟨"AntTrails$History", "restore", "(LAntTrails$Ground;)I"⟩ prog_4_method_5_code 2 (some .int) ∈ lw_tbl := mt2 (List.mem_of_getElem? (i := 44) rfl)
set_option maxRecDepth 100000 in
theorem wd_298 : Cond.constant "AntTrails$History" 33 (-1000000002) ∈ lw_tbl := mt2 (List.mem_of_getElem? (i := 45) rfl)
set_option maxRecDepth 100000 in
theorem wd_299 : Cond.methodLink "AntTrails$History" 22 ⟨"AntTrails$Ground", "copy", "(LAntTrails$Ground;LAntTrails$Ground;)V"⟩ ∈ lw_tbl := mt2 (List.mem_of_getElem? (i := 46) rfl)
set_option maxRecDepth 100000 in
theorem wd_300 : Cond.static ⟨"AntTrails$Ground", "copy", "(LAntTrails$Ground;LAntTrails$Ground;)V"⟩ ∈ lw_tbl := mt2 (List.mem_of_getElem? (i := 47) rfl)
set_option maxRecDepth 100000 in
theorem wd_301 : Cond.code ⟨"AntTrails$Ground", "copy", "(LAntTrails$Ground;LAntTrails$Ground;)V"⟩ prog_3_method_2_code 2 none ∈ lw_tbl := mt2 (List.mem_of_getElem? (i := 48) rfl)
set_option maxRecDepth 100000 in
theorem wd_302 : Cond.methodLink "AntTrails$Ground" 75 ⟨"AntTrails$Way", "copy", "(LAntTrails$Way;LAntTrails$Way;)V"⟩ ∈ lw_tbl := mt2 (List.mem_of_getElem? (i := 49) rfl)
set_option maxRecDepth 100000 in
theorem wd_303 : Cond.static ⟨"AntTrails$Way", "copy", "(LAntTrails$Way;LAntTrails$Way;)V"⟩ ∈ lw_tbl := mt2 (List.mem_of_getElem? (i := 50) rfl)
set_option maxRecDepth 100000 in
theorem wd_304 : Cond.code ⟨"AntTrails$Way", "copy", "(LAntTrails$Way;LAntTrails$Way;)V"⟩ prog_7_method_9_code 2 none ∈ lw_tbl := mt2 (List.mem_of_getElem? (i := 51) rfl)
set_option maxRecDepth 100000 in
theorem wd_305 : Cond.methodLinkNest "AntTrails$Way" 36 ⟨"AntTrails", "copyRow", "([I[I)V"⟩ "AntTrails" ∈ lw_tbl := mt2 (List.mem_of_getElem? (i := 52) rfl)
set_option maxRecDepth 100000 in
theorem wd_306 : Cond.methodLink "AntTrailsLaw" 115 ⟨"AntTrailsLaw", "lot", "([II)I"⟩ ∈ lw_tbl := mt2 (List.mem_of_getElem? (i := 53) rfl)
set_option maxRecDepth 100000 in
theorem wd_307 : Cond.static ⟨"AntTrailsLaw", "lot", "([II)I"⟩ ∈ lw_tbl := mt2 (List.mem_of_getElem? (i := 54) rfl)
set_option maxRecDepth 100000 in
theorem wd_308 : Cond.code ⟨"AntTrailsLaw", "lot", "([II)I"⟩ method_2_code 2 (some .int) ∈ lw_tbl := mt2 (List.mem_of_getElem? (i := 55) rfl)
set_option maxRecDepth 100000 in
theorem wd_309 : Cond.constant "AntTrailsLaw" 7 (-2082413205) ∈ lw_tbl := mt2 (List.mem_of_getElem? (i := 56) rfl)
set_option maxRecDepth 100000 in
theorem wd_310 : Cond.methodLink "AntTrailsLaw" 38 ⟨"AntTrailsLaw", "low", "(II)I"⟩ ∈ lw_tbl := mt2 (List.mem_of_getElem? (i := 57) rfl)
set_option maxRecDepth 100000 in
theorem wd_311 : Cond.static ⟨"AntTrailsLaw", "low", "(II)I"⟩ ∈ lw_tbl := mt2 (List.mem_of_getElem? (i := 58) rfl)
set_option maxRecDepth 100000 in
theorem wd_312 : Cond.code ⟨"AntTrailsLaw", "low", "(II)I"⟩ method_3_code 2 (some .int) ∈ lw_tbl := mt2 (List.mem_of_getElem? (i := 59) rfl)
set_option maxRecDepth 100000 in
theorem wd_313 : Cond.constant "AntTrailsLaw" 8 (2147483647) ∈ lw_tbl := mt2 (List.mem_of_getElem? (i := 60) rfl)
set_option maxRecDepth 100000 in
theorem wd_314 : Cond.methodLink "AntTrailsLaw" 119 ⟨"AntTrailsLaw", "digest", "(LAntTrails;)J"⟩ ∈ lw_tbl := mt2 (List.mem_of_getElem? (i := 61) rfl)
set_option maxRecDepth 100000 in
theorem wd_315 : Cond.static ⟨"AntTrailsLaw", "digest", "(LAntTrails;)J"⟩ ∈ lw_tbl := mt2 (List.mem_of_getElem? (i := 62) rfl)
set_option maxRecDepth 100000 in
theorem wd_316 : Cond.code ⟨"AntTrailsLaw", "digest", "(LAntTrails;)J"⟩ method_4_code 5 (some .long) ∈ lw_tbl := mt2 (List.mem_of_getElem? (i := 63) rfl)
set_option maxRecDepth 100000 in
theorem wd_317 : Cond.constantLong "AntTrailsLaw" 9 (251) ∈ lw_tbl := mt2 (List.mem_of_getElem? (i := 64) rfl)
set_option maxRecDepth 100000 in
theorem wd_318 : Cond.constantLong "AntTrailsLaw" 11 (31) ∈ lw_tbl := mt2 (List.mem_of_getElem? (i := 65) rfl)
set_option maxRecDepth 100000 in
theorem wd_319 : Cond.methodLink "AntTrailsLaw" 19 ⟨"AntTrails", "pathOf", "(II)I"⟩ ∈ lw_tbl := mt2 (List.mem_of_getElem? (i := 66) rfl)
set_option maxRecDepth 100000 in
theorem wd_320 : Cond.instanceMethod ⟨"AntTrails", "pathOf", "(II)I"⟩ ∈ lw_tbl := mt2 (List.mem_of_getElem? (i := 67) rfl)
set_option maxRecDepth 100000 in
theorem wd_321 : Cond.selects "AntTrails" ⟨"AntTrails", "pathOf", "(II)I"⟩ ⟨"AntTrails", "pathOf", "(II)I"⟩ ∈ lw_tbl := mt2 (List.mem_of_getElem? (i := 68) rfl)
set_option maxRecDepth 100000 in
theorem wd_322 : Cond.code ⟨"AntTrails", "pathOf", "(II)I"⟩ prog_1_method_9_code 3 (some .int) ∈ lw_tbl := mt2 (List.mem_of_getElem? (i := 69) rfl)
set_option maxRecDepth 100000 in
theorem wd_323 : Cond.methodLink "AntTrails" 81 ⟨"AntTrails$Ground", "isPath", "(I)Z"⟩ ∈ lw_tbl := mt2 (List.mem_of_getElem? (i := 70) rfl)
set_option maxRecDepth 100000 in
theorem wd_324 : Cond.methodLink "AntTrails" 99 ⟨"AntTrails$Ground", "isClosed", "(I)Z"⟩ ∈ lw_tbl := mt2 (List.mem_of_getElem? (i := 71) rfl)
set_option maxRecDepth 100000 in
theorem wd_325 : Cond.methodLink "AntTrails" 102 ⟨"AntTrails$Ground", "weight", "(I)I"⟩ ∈ lw_tbl := mt2 (List.mem_of_getElem? (i := 72) rfl)
set_option maxRecDepth 100000 in
theorem wd_326 : Cond.instanceMethod ⟨"AntTrails$Ground", "weight", "(I)I"⟩ ∈ lw_tbl := mt2 (List.mem_of_getElem? (i := 73) rfl)
set_option maxRecDepth 100000 in
theorem wd_327 : Cond.selects "AntTrails$Ground" ⟨"AntTrails$Ground", "weight", "(I)I"⟩ ⟨"AntTrails$Ground", "weight", "(I)I"⟩ ∈ lw_tbl := mt2 (List.mem_of_getElem? (i := 74) rfl)
set_option maxRecDepth 100000 in
theorem wd_328 : Cond.code ⟨"AntTrails$Ground", "weight", "(I)I"⟩ prog_3_method_10_code 2 (some .int) ∈ lw_tbl := mt2 (List.mem_of_getElem? (i := 75) rfl)
set_option maxRecDepth 100000 in
theorem wd_329 : Cond.methodLink "AntTrails" 112 ⟨"AntTrails$Way", "hasPath", "(I)Z"⟩ ∈ lw_tbl := mt2 (List.mem_of_getElem? (i := 76) rfl)
set_option maxRecDepth 100000 in
theorem wd_330 : Cond.instanceMethod ⟨"AntTrails$Way", "hasPath", "(I)Z"⟩ ∈ lw_tbl := mt2 (List.mem_of_getElem? (i := 77) rfl)
set_option maxRecDepth 100000 in
theorem wd_331 : Cond.selects "AntTrails$Way" ⟨"AntTrails$Way", "hasPath", "(I)Z"⟩ ⟨"AntTrails$Way", "hasPath", "(I)Z"⟩ ∈ lw_tbl := mt2 (List.mem_of_getElem? (i := 78) rfl)
set_option maxRecDepth 100000 in
theorem wd_332 : Cond.code ⟨"AntTrails$Way", "hasPath", "(I)Z"⟩ prog_7_method_6_code 2 (some .boolean) ∈ lw_tbl := mt2 (List.mem_of_getElem? (i := 79) rfl)
set_option maxRecDepth 100000 in
theorem wd_333 : Cond.methodLinkNest "AntTrails$Way" 32 ⟨"AntTrails", "hasBit", "(II)Z"⟩ "AntTrails" ∈ lw_tbl := mt2 (List.mem_of_getElem? (i := 80) rfl)
set_option maxRecDepth 100000 in
theorem wd_334 : Cond.static ⟨"AntTrails", "hasBit", "(II)Z"⟩ ∈ lw_tbl := mt2 (List.mem_of_getElem? (i := 81) rfl)
set_option maxRecDepth 100000 in
theorem wd_335 : Cond.code ⟨"AntTrails", "hasBit", "(II)Z"⟩ prog_1_method_26_code 2 (some .boolean) ∈ lw_tbl := mt2 (List.mem_of_getElem? (i := 82) rfl)
set_option maxRecDepth 100000 in
theorem wd_336 : Cond.methodLink "AntTrailsLaw" 23 ⟨"AntTrails", "placeOf", "(II)I"⟩ ∈ lw_tbl := mt2 (List.mem_of_getElem? (i := 83) rfl)
set_option maxRecDepth 100000 in
theorem wd_337 : Cond.instanceMethod ⟨"AntTrails", "placeOf", "(II)I"⟩ ∈ lw_tbl := mt2 (List.mem_of_getElem? (i := 84) rfl)
set_option maxRecDepth 100000 in
theorem wd_338 : Cond.selects "AntTrails" ⟨"AntTrails", "placeOf", "(II)I"⟩ ⟨"AntTrails", "placeOf", "(II)I"⟩ ∈ lw_tbl := mt2 (List.mem_of_getElem? (i := 85) rfl)
set_option maxRecDepth 100000 in
theorem wd_339 : Cond.code ⟨"AntTrails", "placeOf", "(II)I"⟩ prog_1_method_10_code 3 (some .int) ∈ lw_tbl := mt2 (List.mem_of_getElem? (i := 86) rfl)
set_option maxRecDepth 100000 in
theorem wd_340 : Cond.methodLink "AntTrails" 117 ⟨"AntTrails$Ground", "isPlace", "(I)Z"⟩ ∈ lw_tbl := mt2 (List.mem_of_getElem? (i := 87) rfl)
set_option maxRecDepth 100000 in
theorem wd_341 : Cond.instanceMethod ⟨"AntTrails$Ground", "isPlace", "(I)Z"⟩ ∈ lw_tbl := mt2 (List.mem_of_getElem? (i := 88) rfl)
set_option maxRecDepth 100000 in
theorem wd_342 : Cond.selects "AntTrails$Ground" ⟨"AntTrails$Ground", "isPlace", "(I)Z"⟩ ⟨"AntTrails$Ground", "isPlace", "(I)Z"⟩ ∈ lw_tbl := mt2 (List.mem_of_getElem? (i := 89) rfl)
set_option maxRecDepth 100000 in
theorem wd_343 : Cond.code ⟨"AntTrails$Ground", "isPlace", "(I)Z"⟩ prog_3_method_3_code 2 (some .boolean) ∈ lw_tbl := mt2 (List.mem_of_getElem? (i := 90) rfl)
set_option maxRecDepth 100000 in
theorem wd_344 : Cond.methodLink "AntTrails" 120 ⟨"AntTrails$Ground", "openPathsAt", "(I)I"⟩ ∈ lw_tbl := mt2 (List.mem_of_getElem? (i := 91) rfl)
set_option maxRecDepth 100000 in
theorem wd_345 : Cond.instanceMethod ⟨"AntTrails$Ground", "openPathsAt", "(I)I"⟩ ∈ lw_tbl := mt2 (List.mem_of_getElem? (i := 92) rfl)
set_option maxRecDepth 100000 in
theorem wd_346 : Cond.selects "AntTrails$Ground" ⟨"AntTrails$Ground", "openPathsAt", "(I)I"⟩ ⟨"AntTrails$Ground", "openPathsAt", "(I)I"⟩ ∈ lw_tbl := mt2 (List.mem_of_getElem? (i := 93) rfl)
set_option maxRecDepth 100000 in
theorem wd_347 : Cond.code ⟨"AntTrails$Ground", "openPathsAt", "(I)I"⟩ prog_3_method_13_code 4 (some .int) ∈ lw_tbl := mt2 (List.mem_of_getElem? (i := 94) rfl)
set_option maxRecDepth 100000 in
theorem wd_348 : Cond.methodLink "AntTrails$Ground" 89 ⟨"AntTrails$Ground", "across", "(II)I"⟩ ∈ lw_tbl := mt2 (List.mem_of_getElem? (i := 95) rfl)
set_option maxRecDepth 100000 in
theorem wd_349 : Cond.instanceMethod ⟨"AntTrails$Ground", "across", "(II)I"⟩ ∈ lw_tbl := mt2 (List.mem_of_getElem? (i := 96) rfl)
set_option maxRecDepth 100000 in
theorem wd_350 : Cond.selects "AntTrails$Ground" ⟨"AntTrails$Ground", "across", "(II)I"⟩ ⟨"AntTrails$Ground", "across", "(II)I"⟩ ∈ lw_tbl := mt2 (List.mem_of_getElem? (i := 97) rfl)
set_option maxRecDepth 100000 in
theorem wd_351 : Cond.code ⟨"AntTrails$Ground", "across", "(II)I"⟩ prog_3_method_11_code 3 (some .int) ∈ lw_tbl := mt2 (List.mem_of_getElem? (i := 98) rfl)
set_option maxRecDepth 100000 in
theorem wd_352 : Cond.methodLink "AntTrails" 129 ⟨"AntTrails$Survey", "distance", "(LAntTrails$Ground;I)I"⟩ ∈ lw_tbl := mt2 (List.mem_of_getElem? (i := 99) rfl)
set_option maxRecDepth 100000 in
theorem wd_353 : Cond.instanceMethod ⟨"AntTrails$Survey", "distance", "(LAntTrails$Ground;I)I"⟩ ∈ lw_tbl := mt2 (List.mem_of_getElem? (i := 100) rfl)
set_option maxRecDepth 100000 in
theorem wd_354 : Cond.selects "AntTrails$Survey" ⟨"AntTrails$Survey", "distance", "(LAntTrails$Ground;I)I"⟩ ⟨"AntTrails$Survey", "distance", "(LAntTrails$Ground;I)I"⟩ ∈ lw_tbl := mt2 (List.mem_of_getElem? (i := 101) rfl)
set_option maxRecDepth 100000 in
theorem wd_355 : Cond.code ⟨"AntTrails$Survey", "distance", "(LAntTrails$Ground;I)I"⟩ prog_6_method_2_code 5 (some .int) ∈ lw_tbl := mt2 (List.mem_of_getElem? (i := 102) rfl)
set_option maxRecDepth 100000 in
theorem wd_356 : Cond.methodLink "AntTrails$Survey" 22 ⟨"AntTrails$Ground", "isPlace", "(I)Z"⟩ ∈ lw_tbl := mt2 (List.mem_of_getElem? (i := 103) rfl)
set_option maxRecDepth 100000 in
theorem wd_357 : Cond.constant "AntTrails$Survey" 28 (-1000000004) ∈ lw_tbl := mt2 (List.mem_of_getElem? (i := 104) rfl)
set_option maxRecDepth 100000 in
theorem wd_358 : Cond.constant "AntTrails$Survey" 29 (1000000) ∈ lw_tbl := mt2 (List.mem_of_getElem? (i := 105) rfl)
set_option maxRecDepth 100000 in
theorem wd_359 : Cond.methodLink "AntTrails$Survey" 37 ⟨"AntTrails$Survey", "shorten", "(LAntTrails$Ground;I)V"⟩ ∈ lw_tbl := mt2 (List.mem_of_getElem? (i := 106) rfl)
set_option maxRecDepth 100000 in
theorem wd_361 : Cond.instanceMethod ⟨"AntTrails$Survey", "shorten", "(LAntTrails$Ground;I)V"⟩ ∈ lw_tbl := mt2 (List.mem_of_getElem? (i := 108) rfl)
set_option maxRecDepth 100000 in
theorem wd_362 : Cond.code ⟨"AntTrails$Survey", "shorten", "(LAntTrails$Ground;I)V"⟩ prog_6_method_3_code 5 none ∈ lw_tbl := mt2 (List.mem_of_getElem? (i := 109) rfl)
set_option maxRecDepth 100000 in
theorem wd_363 : Cond.methodLink "AntTrails$Survey" 41 ⟨"AntTrails$Ground", "isPath", "(I)Z"⟩ ∈ lw_tbl := mt2 (List.mem_of_getElem? (i := 110) rfl)
set_option maxRecDepth 100000 in
theorem wd_364 : Cond.methodLink "AntTrails$Survey" 44 ⟨"AntTrails$Ground", "isClosed", "(I)Z"⟩ ∈ lw_tbl := mt2 (List.mem_of_getElem? (i := 111) rfl)
set_option maxRecDepth 100000 in
theorem wd_365 : Cond.methodLinkNest "AntTrails$Survey" 53 ⟨"AntTrails", "isWithin", "(III)Z"⟩ "AntTrails" ∈ lw_tbl := mt2 (List.mem_of_getElem? (i := 112) rfl)
set_option maxRecDepth 100000 in
theorem wd_366 : Cond.methodLink "AntTrails$Survey" 60 ⟨"java/lang/Math", "min", "(II)I"⟩ ∈ lw_tbl := mt2 (List.mem_of_getElem? (i := 113) rfl)
set_option maxRecDepth 100000 in
theorem wd_367 : Cond.static ⟨"java/lang/Math", "min", "(II)I"⟩ ∈ lw_tbl := mt2 (List.mem_of_getElem? (i := 114) rfl)
set_option maxRecDepth 100000 in
theorem wd_368 : Cond.code ⟨"java/lang/Math", "min", "(II)I"⟩ prog_10_method_69_code 2 (some .int) ∈ lw_tbl := mt2 (List.mem_of_getElem? (i := 115) rfl)
set_option maxRecDepth 100000 in
theorem wd_369 : Cond.methodLink "AntTrails" 132 ⟨"AntTrails$Ground", "hasBest", "()Z"⟩ ∈ lw_tbl := mt2 (List.mem_of_getElem? (i := 116) rfl)
set_option maxRecDepth 100000 in
theorem wd_370 : Cond.instanceMethod ⟨"AntTrails$Ground", "hasBest", "()Z"⟩ ∈ lw_tbl := mt2 (List.mem_of_getElem? (i := 117) rfl)
set_option maxRecDepth 100000 in
theorem wd_371 : Cond.selects "AntTrails$Ground" ⟨"AntTrails$Ground", "hasBest", "()Z"⟩ ⟨"AntTrails$Ground", "hasBest", "()Z"⟩ ∈ lw_tbl := mt2 (List.mem_of_getElem? (i := 118) rfl)
set_option maxRecDepth 100000 in
theorem wd_372 : Cond.code ⟨"AntTrails$Ground", "hasBest", "()Z"⟩ prog_3_method_6_code 1 (some .boolean) ∈ lw_tbl := mt2 (List.mem_of_getElem? (i := 119) rfl)
set_option maxRecDepth 100000 in
theorem wd_373 : Cond.methodLink "AntTrails" 136 ⟨"AntTrails$Way", "hasPlace", "(I)Z"⟩ ∈ lw_tbl := mt2 (List.mem_of_getElem? (i := 120) rfl)
set_option maxRecDepth 100000 in
theorem wd_374 : Cond.instanceMethod ⟨"AntTrails$Way", "hasPlace", "(I)Z"⟩ ∈ lw_tbl := mt2 (List.mem_of_getElem? (i := 121) rfl)
set_option maxRecDepth 100000 in
theorem wd_375 : Cond.selects "AntTrails$Way" ⟨"AntTrails$Way", "hasPlace", "(I)Z"⟩ ⟨"AntTrails$Way", "hasPlace", "(I)Z"⟩ ∈ lw_tbl := mt2 (List.mem_of_getElem? (i := 122) rfl)
set_option maxRecDepth 100000 in
theorem wd_376 : Cond.code ⟨"AntTrails$Way", "hasPlace", "(I)Z"⟩ prog_7_method_7_code 2 (some .boolean) ∈ lw_tbl := mt2 (List.mem_of_getElem? (i := 123) rfl)
set_option maxRecDepth 100000 in
theorem wd_377 : Cond.methodLink "AntTrailsLaw" 26 ⟨"AntTrails", "best", "(I)I"⟩ ∈ lw_tbl := mt2 (List.mem_of_getElem? (i := 124) rfl)
set_option maxRecDepth 100000 in
theorem wd_378 : Cond.instanceMethod ⟨"AntTrails", "best", "(I)I"⟩ ∈ lw_tbl := mt2 (List.mem_of_getElem? (i := 125) rfl)
set_option maxRecDepth 100000 in
theorem wd_379 : Cond.selects "AntTrails" ⟨"AntTrails", "best", "(I)I"⟩ ⟨"AntTrails", "best", "(I)I"⟩ ∈ lw_tbl := mt2 (List.mem_of_getElem? (i := 126) rfl)
set_option maxRecDepth 100000 in
theorem wd_380 : Cond.code ⟨"AntTrails", "best", "(I)I"⟩ prog_1_method_11_code 2 (some .int) ∈ lw_tbl := mt2 (List.mem_of_getElem? (i := 127) rfl)
set_option maxRecDepth 100000 in
theorem wd_381 : Cond.constant "AntTrails" 143 (-1000000004) ∈ lw_tbl := mt2 (List.mem_of_getElem? (i := 128) rfl)
set_option maxRecDepth 100000 in
theorem wd_382 : Cond.methodLink "AntTrailsLaw" 29 ⟨"AntTrails", "bestAt", "(I)I"⟩ ∈ lw_tbl := mt2 (List.mem_of_getElem? (i := 129) rfl)
set_option maxRecDepth 100000 in
theorem wd_383 : Cond.instanceMethod ⟨"AntTrails", "bestAt", "(I)I"⟩ ∈ lw_tbl := mt2 (List.mem_of_getElem? (i := 130) rfl)
set_option maxRecDepth 100000 in
theorem wd_384 : Cond.selects "AntTrails" ⟨"AntTrails", "bestAt", "(I)I"⟩ ⟨"AntTrails", "bestAt", "(I)I"⟩ ∈ lw_tbl := mt2 (List.mem_of_getElem? (i := 131) rfl)
set_option maxRecDepth 100000 in
theorem wd_385 : Cond.code ⟨"AntTrails", "bestAt", "(I)I"⟩ prog_1_method_12_code 2 (some .int) ∈ lw_tbl := mt2 (List.mem_of_getElem? (i := 132) rfl)
set_option maxRecDepth 100000 in
theorem wd_386 : Cond.methodLink "AntTrails" 157 ⟨"AntTrails$Way", "placeAt", "(I)I"⟩ ∈ lw_tbl := mt2 (List.mem_of_getElem? (i := 133) rfl)
set_option maxRecDepth 100000 in
theorem wd_387 : Cond.instanceMethod ⟨"AntTrails$Way", "placeAt", "(I)I"⟩ ∈ lw_tbl := mt2 (List.mem_of_getElem? (i := 134) rfl)
set_option maxRecDepth 100000 in
theorem wd_388 : Cond.selects "AntTrails$Way" ⟨"AntTrails$Way", "placeAt", "(I)I"⟩ ⟨"AntTrails$Way", "placeAt", "(I)I"⟩ ∈ lw_tbl := mt2 (List.mem_of_getElem? (i := 135) rfl)
set_option maxRecDepth 100000 in
theorem wd_389 : Cond.code ⟨"AntTrails$Way", "placeAt", "(I)I"⟩ prog_7_method_4_code 2 (some .int) ∈ lw_tbl := mt2 (List.mem_of_getElem? (i := 136) rfl)
set_option maxRecDepth 100000 in
theorem wd_390 : Cond.methodLink "AntTrailsLaw" 107 ⟨"AntTrailsLaw", "holds", "(LAntTrails;)Z"⟩ ∈ lw_tbl := mt2 (List.mem_of_getElem? (i := 137) rfl)
set_option maxRecDepth 100000 in
theorem wd_391 : Cond.static ⟨"AntTrailsLaw", "holds", "(LAntTrails;)Z"⟩ ∈ lw_tbl := mt2 (List.mem_of_getElem? (i := 138) rfl)
set_option maxRecDepth 100000 in
theorem wd_392 : Cond.code ⟨"AntTrailsLaw", "holds", "(LAntTrails;)Z"⟩ method_5_code 11 (some .boolean) ∈ lw_tbl := mt2 (List.mem_of_getElem? (i := 139) rfl)
set_option maxRecDepth 100000 in
theorem wd_393 : Cond.constant "AntTrailsLaw" 34 (-1000000004) ∈ lw_tbl := mt2 (List.mem_of_getElem? (i := 140) rfl)
set_option maxRecDepth 100000 in
theorem wd_394 : Cond.methodLink "AntTrailsLaw" 35 ⟨"AntTrails", "chance", "(II)I"⟩ ∈ lw_tbl := mt2 (List.mem_of_getElem? (i := 141) rfl)
set_option maxRecDepth 100000 in
theorem wd_395 : Cond.instanceMethod ⟨"AntTrails", "chance", "(II)I"⟩ ∈ lw_tbl := mt2 (List.mem_of_getElem? (i := 142) rfl)
set_option maxRecDepth 100000 in
theorem wd_396 : Cond.selects "AntTrails" ⟨"AntTrails", "chance", "(II)I"⟩ ⟨"AntTrails", "chance", "(II)I"⟩ ∈ lw_tbl := mt2 (List.mem_of_getElem? (i := 143) rfl)
set_option maxRecDepth 100000 in
theorem wd_397 : Cond.code ⟨"AntTrails", "chance", "(II)I"⟩ prog_1_method_13_code 4 (some .int) ∈ lw_tbl := mt2 (List.mem_of_getElem? (i := 144) rfl)
set_option maxRecDepth 100000 in
theorem wd_398 : Cond.methodLink "AntTrails" 160 ⟨"AntTrails$Ground", "weightsAt", "(I)I"⟩ ∈ lw_tbl := mt2 (List.mem_of_getElem? (i := 145) rfl)
set_option maxRecDepth 100000 in
theorem wd_399 : Cond.instanceMethod ⟨"AntTrails$Ground", "weightsAt", "(I)I"⟩ ∈ lw_tbl := mt2 (List.mem_of_getElem? (i := 146) rfl)
set_option maxRecDepth 100000 in
theorem wd_400 : Cond.selects "AntTrails$Ground" ⟨"AntTrails$Ground", "weightsAt", "(I)I"⟩ ⟨"AntTrails$Ground", "weightsAt", "(I)I"⟩ ∈ lw_tbl := mt2 (List.mem_of_getElem? (i := 147) rfl)
set_option maxRecDepth 100000 in
theorem wd_401 : Cond.code ⟨"AntTrails$Ground", "weightsAt", "(I)I"⟩ prog_3_method_14_code 4 (some .int) ∈ lw_tbl := mt2 (List.mem_of_getElem? (i := 148) rfl)
set_option maxRecDepth 100000 in
theorem wd_402 : Cond.methodLink "AntTrails$Ground" 93 ⟨"AntTrails$Ground", "weight", "(I)I"⟩ ∈ lw_tbl := mt2 (List.mem_of_getElem? (i := 149) rfl)
set_option maxRecDepth 100000 in
theorem wd_403 : Cond.methodLink "AntTrails" 163 ⟨"AntTrails$Ground", "across", "(II)I"⟩ ∈ lw_tbl := mt2 (List.mem_of_getElem? (i := 150) rfl)
set_option maxRecDepth 100000 in
theorem wd_404 : Cond.methodLink "AntTrails" 166 ⟨"AntTrails", "bitsOf", "(F)I"⟩ ∈ lw_tbl := mt2 (List.mem_of_getElem? (i := 151) rfl)
set_option maxRecDepth 100000 in
theorem wd_405 : Cond.static ⟨"AntTrails", "bitsOf", "(F)I"⟩ ∈ lw_tbl := mt2 (List.mem_of_getElem? (i := 152) rfl)
set_option maxRecDepth 100000 in
theorem wd_406 : Cond.code ⟨"AntTrails", "bitsOf", "(F)I"⟩ prog_1_method_28_code 4 (some .int) ∈ lw_tbl := mt2 (List.mem_of_getElem? (i := 153) rfl)
set_option maxRecDepth 100000 in
theorem wd_407 : Cond.constantFloat "AntTrails" 251 (1258291200) ∈ lw_tbl := mt2 (List.mem_of_getElem? (i := 154) rfl)
set_option maxRecDepth 100000 in
theorem wd_408 : Cond.methodLink "AntTrailsLaw" 110 ⟨"AntTrailsLaw", "would", "(LAntTrails;I)Z"⟩ ∈ lw_tbl := mt2 (List.mem_of_getElem? (i := 155) rfl)
set_option maxRecDepth 100000 in
theorem wd_409 : Cond.static ⟨"AntTrailsLaw", "would", "(LAntTrails;I)Z"⟩ ∈ lw_tbl := mt2 (List.mem_of_getElem? (i := 156) rfl)
set_option maxRecDepth 100000 in
theorem wd_410 : Cond.code ⟨"AntTrailsLaw", "would", "(LAntTrails;I)Z"⟩ method_6_code 9 (some .boolean) ∈ lw_tbl := mt2 (List.mem_of_getElem? (i := 157) rfl)
set_option maxRecDepth 100000 in
theorem wd_411 : Cond.methodLink "AntTrailsLaw" 41 ⟨"AntTrails", "would", "(II)I"⟩ ∈ lw_tbl := mt2 (List.mem_of_getElem? (i := 158) rfl)
set_option maxRecDepth 100000 in
theorem wd_412 : Cond.instanceMethod ⟨"AntTrails", "would", "(II)I"⟩ ∈ lw_tbl := mt2 (List.mem_of_getElem? (i := 159) rfl)
set_option maxRecDepth 100000 in
theorem wd_413 : Cond.selects "AntTrails" ⟨"AntTrails", "would", "(II)I"⟩ ⟨"AntTrails", "would", "(II)I"⟩ ∈ lw_tbl := mt2 (List.mem_of_getElem? (i := 160) rfl)
set_option maxRecDepth 100000 in
theorem wd_414 : Cond.code ⟨"AntTrails", "would", "(II)I"⟩ prog_1_method_17_code 4 (some .int) ∈ lw_tbl := mt2 (List.mem_of_getElem? (i := 161) rfl)
set_option maxRecDepth 100000 in
theorem wd_415 : Cond.methodLink "AntTrails" 186 ⟨"AntTrails$Ground", "copy", "(LAntTrails$Ground;LAntTrails$Ground;)V"⟩ ∈ lw_tbl := mt2 (List.mem_of_getElem? (i := 162) rfl)
set_option maxRecDepth 100000 in
theorem wd_416 : Cond.methodLink "AntTrails" 70 ⟨"AntTrails$Colony", "passLaps", "(LAntTrails$Ground;I)I"⟩ ∈ lw_tbl := mt2 (List.mem_of_getElem? (i := 163) rfl)
set_option maxRecDepth 100000 in
theorem wd_417 : Cond.instanceMethod ⟨"AntTrails$Colony", "passLaps", "(LAntTrails$Ground;I)I"⟩ ∈ lw_tbl := mt2 (List.mem_of_getElem? (i := 164) rfl)
set_option maxRecDepth 100000 in
theorem wd_418 : Cond.selects "AntTrails$Colony" ⟨"AntTrails$Colony", "passLaps", "(LAntTrails$Ground;I)I"⟩ ⟨"AntTrails$Colony", "passLaps", "(LAntTrails$Ground;I)I"⟩ ∈ lw_tbl := mt2 (List.mem_of_getElem? (i := 165) rfl)
set_option maxRecDepth 100000 in
theorem wd_419 : Cond.code ⟨"AntTrails$Colony", "passLaps", "(LAntTrails$Ground;I)I"⟩ prog_2_method_2_code 8 (some .int) ∈ lw_tbl := mt2 (List.mem_of_getElem? (i := 166) rfl)
set_option maxRecDepth 100000 in
theorem wd_420 : Cond.methodLinkNest "AntTrails$Colony" 25 ⟨"AntTrails", "isWithin", "(III)Z"⟩ "AntTrails" ∈ lw_tbl := mt2 (List.mem_of_getElem? (i := 167) rfl)
set_option maxRecDepth 100000 in
theorem wd_421 : Cond.constant "AntTrails$Colony" 29 (-1000000001) ∈ lw_tbl := mt2 (List.mem_of_getElem? (i := 168) rfl)
set_option maxRecDepth 100000 in
theorem wd_422 : Cond.methodLink "AntTrails$Colony" 30 ⟨"AntTrails$Ground", "hasFood", "()Z"⟩ ∈ lw_tbl := mt2 (List.mem_of_getElem? (i := 169) rfl)
set_option maxRecDepth 100000 in
theorem wd_423 : Cond.instanceMethod ⟨"AntTrails$Ground", "hasFood", "()Z"⟩ ∈ lw_tbl := mt2 (List.mem_of_getElem? (i := 170) rfl)
set_option maxRecDepth 100000 in
theorem wd_424 : Cond.selects "AntTrails$Ground" ⟨"AntTrails$Ground", "hasFood", "()Z"⟩ ⟨"AntTrails$Ground", "hasFood", "()Z"⟩ ∈ lw_tbl := mt2 (List.mem_of_getElem? (i := 171) rfl)
set_option maxRecDepth 100000 in
theorem wd_425 : Cond.code ⟨"AntTrails$Ground", "hasFood", "()Z"⟩ prog_3_method_5_code 1 (some .boolean) ∈ lw_tbl := mt2 (List.mem_of_getElem? (i := 172) rfl)
set_option maxRecDepth 100000 in
theorem wd_426 : Cond.constant "AntTrails$Colony" 36 (-1000000002) ∈ lw_tbl := mt2 (List.mem_of_getElem? (i := 173) rfl)
set_option maxRecDepth 100000 in
theorem wd_427 : Cond.methodLink "AntTrails$Colony" 40 ⟨"AntTrails$Ground", "setting", "(I)I"⟩ ∈ lw_tbl := mt2 (List.mem_of_getElem? (i := 174) rfl)
set_option maxRecDepth 100000 in
theorem wd_428 : Cond.methodLink "AntTrails$Colony" 44 ⟨"AntTrails$Colony", "clearLaid", "()V"⟩ ∈ lw_tbl := mt2 (List.mem_of_getElem? (i := 175) rfl)
set_option maxRecDepth 100000 in
theorem wd_430 : Cond.instanceMethod ⟨"AntTrails$Colony", "clearLaid", "()V"⟩ ∈ lw_tbl := mt2 (List.mem_of_getElem? (i := 177) rfl)
set_option maxRecDepth 100000 in
theorem wd_431 : Cond.code ⟨"AntTrails$Colony", "clearLaid", "()V"⟩ prog_2_method_3_code 2 none ∈ lw_tbl := mt2 (List.mem_of_getElem? (i := 178) rfl)
set_option maxRecDepth 100000 in
theorem wd_432 : Cond.methodLink "AntTrails$Colony" 47 ⟨"AntTrails$Colony", "walk", "(LAntTrails$Ground;)I"⟩ ∈ lw_tbl := mt2 (List.mem_of_getElem? (i := 179) rfl)
set_option maxRecDepth 100000 in
theorem wd_433 : Cond.instanceMethod ⟨"AntTrails$Colony", "walk", "(LAntTrails$Ground;)I"⟩ ∈ lw_tbl := mt2 (List.mem_of_getElem? (i := 180) rfl)
set_option maxRecDepth 100000 in
theorem wd_434 : Cond.selects "AntTrails$Colony" ⟨"AntTrails$Colony", "walk", "(LAntTrails$Ground;)I"⟩ ⟨"AntTrails$Colony", "walk", "(LAntTrails$Ground;)I"⟩ ∈ lw_tbl := mt2 (List.mem_of_getElem? (i := 181) rfl)
set_option maxRecDepth 100000 in
theorem wd_435 : Cond.code ⟨"AntTrails$Colony", "walk", "(LAntTrails$Ground;)I"⟩ prog_2_method_5_code 6 (some .int) ∈ lw_tbl := mt2 (List.mem_of_getElem? (i := 182) rfl)
set_option maxRecDepth 100000 in
theorem wd_436 : Cond.methodLink "AntTrails$Colony" 79 ⟨"AntTrails$Way", "begin", "()V"⟩ ∈ lw_tbl := mt2 (List.mem_of_getElem? (i := 183) rfl)
set_option maxRecDepth 100000 in
theorem wd_437 : Cond.instanceMethod ⟨"AntTrails$Way", "begin", "()V"⟩ ∈ lw_tbl := mt2 (List.mem_of_getElem? (i := 184) rfl)
set_option maxRecDepth 100000 in
theorem wd_438 : Cond.selects "AntTrails$Way" ⟨"AntTrails$Way", "begin", "()V"⟩ ⟨"AntTrails$Way", "begin", "()V"⟩ ∈ lw_tbl := mt2 (List.mem_of_getElem? (i := 185) rfl)
set_option maxRecDepth 100000 in
theorem wd_439 : Cond.code ⟨"AntTrails$Way", "begin", "()V"⟩ prog_7_method_2_code 1 none ∈ lw_tbl := mt2 (List.mem_of_getElem? (i := 186) rfl)
set_option maxRecDepth 100000 in
theorem wd_440 : Cond.methodLink "AntTrails$Colony" 82 ⟨"AntTrails$Way", "end", "()I"⟩ ∈ lw_tbl := mt2 (List.mem_of_getElem? (i := 187) rfl)
set_option maxRecDepth 100000 in
theorem wd_441 : Cond.instanceMethod ⟨"AntTrails$Way", "end", "()I"⟩ ∈ lw_tbl := mt2 (List.mem_of_getElem? (i := 188) rfl)
set_option maxRecDepth 100000 in
theorem wd_442 : Cond.selects "AntTrails$Way" ⟨"AntTrails$Way", "end", "()I"⟩ ⟨"AntTrails$Way", "end", "()I"⟩ ∈ lw_tbl := mt2 (List.mem_of_getElem? (i := 189) rfl)
set_option maxRecDepth 100000 in
theorem wd_443 : Cond.code ⟨"AntTrails$Way", "end", "()I"⟩ prog_7_method_5_code 1 (some .int) ∈ lw_tbl := mt2 (List.mem_of_getElem? (i := 190) rfl)
set_option maxRecDepth 100000 in
theorem wd_444 : Cond.methodLink "AntTrails$Way" 28 ⟨"AntTrails$Way", "placeAt", "(I)I"⟩ ∈ lw_tbl := mt2 (List.mem_of_getElem? (i := 191) rfl)
set_option maxRecDepth 100000 in
theorem wd_445 : Cond.methodLink "AntTrails$Colony" 89 ⟨"AntTrails$Colony", "lookAhead", "(LAntTrails$Ground;)I"⟩ ∈ lw_tbl := mt2 (List.mem_of_getElem? (i := 192) rfl)
set_option maxRecDepth 100000 in
theorem wd_447 : Cond.instanceMethod ⟨"AntTrails$Colony", "lookAhead", "(LAntTrails$Ground;)I"⟩ ∈ lw_tbl := mt2 (List.mem_of_getElem? (i := 194) rfl)
set_option maxRecDepth 100000 in
theorem wd_448 : Cond.code ⟨"AntTrails$Colony", "lookAhead", "(LAntTrails$Ground;)I"⟩ prog_2_method_6_code 5 (some .int) ∈ lw_tbl := mt2 (List.mem_of_getElem? (i := 195) rfl)
set_option maxRecDepth 100000 in
theorem wd_449 : Cond.methodLink "AntTrails$Colony" 105 ⟨"AntTrails$Ground", "across", "(II)I"⟩ ∈ lw_tbl := mt2 (List.mem_of_getElem? (i := 196) rfl)
set_option maxRecDepth 100000 in
theorem wd_450 : Cond.methodLink "AntTrails$Colony" 116 ⟨"AntTrails$Way", "isNew", "(I)Z"⟩ ∈ lw_tbl := mt2 (List.mem_of_getElem? (i := 197) rfl)
set_option maxRecDepth 100000 in
theorem wd_451 : Cond.instanceMethod ⟨"AntTrails$Way", "isNew", "(I)Z"⟩ ∈ lw_tbl := mt2 (List.mem_of_getElem? (i := 198) rfl)
set_option maxRecDepth 100000 in
theorem wd_452 : Cond.selects "AntTrails$Way" ⟨"AntTrails$Way", "isNew", "(I)Z"⟩ ⟨"AntTrails$Way", "isNew", "(I)Z"⟩ ∈ lw_tbl := mt2 (List.mem_of_getElem? (i := 199) rfl)
set_option maxRecDepth 100000 in
theorem wd_453 : Cond.code ⟨"AntTrails$Way", "isNew", "(I)Z"⟩ prog_7_method_8_code 2 (some .boolean) ∈ lw_tbl := mt2 (List.mem_of_getElem? (i := 200) rfl)
set_option maxRecDepth 100000 in
theorem wd_454 : Cond.methodLink "AntTrails$Colony" 119 ⟨"AntTrails$Ground", "weight", "(I)I"⟩ ∈ lw_tbl := mt2 (List.mem_of_getElem? (i := 201) rfl)
set_option maxRecDepth 100000 in
theorem wd_455 : Cond.methodLink "AntTrails$Colony" 92 ⟨"AntTrails$Ground", "draw", "(I)I"⟩ ∈ lw_tbl := mt2 (List.mem_of_getElem? (i := 202) rfl)
set_option maxRecDepth 100000 in
theorem wd_456 : Cond.instanceMethod ⟨"AntTrails$Ground", "draw", "(I)I"⟩ ∈ lw_tbl := mt2 (List.mem_of_getElem? (i := 203) rfl)
set_option maxRecDepth 100000 in
theorem wd_457 : Cond.selects "AntTrails$Ground" ⟨"AntTrails$Ground", "draw", "(I)I"⟩ ⟨"AntTrails$Ground", "draw", "(I)I"⟩ ∈ lw_tbl := mt2 (List.mem_of_getElem? (i := 204) rfl)
set_option maxRecDepth 100000 in
theorem wd_458 : Cond.code ⟨"AntTrails$Ground", "draw", "(I)I"⟩ prog_3_method_23_code 2 (some .int) ∈ lw_tbl := mt2 (List.mem_of_getElem? (i := 205) rfl)
set_option maxRecDepth 100000 in
theorem wd_459 : Cond.constantLong "AntTrails$Ground" 131 (16807) ∈ lw_tbl := mt2 (List.mem_of_getElem? (i := 206) rfl)
set_option maxRecDepth 100000 in
theorem wd_460 : Cond.constantLong "AntTrails$Ground" 133 (2147483647) ∈ lw_tbl := mt2 (List.mem_of_getElem? (i := 207) rfl)
set_option maxRecDepth 100000 in
theorem wd_461 : Cond.methodLink "AntTrails$Colony" 95 ⟨"AntTrails$Colony", "pathAhead", "(LAntTrails$Ground;I)I"⟩ ∈ lw_tbl := mt2 (List.mem_of_getElem? (i := 208) rfl)
set_option maxRecDepth 100000 in
theorem wd_463 : Cond.instanceMethod ⟨"AntTrails$Colony", "pathAhead", "(LAntTrails$Ground;I)I"⟩ ∈ lw_tbl := mt2 (List.mem_of_getElem? (i := 210) rfl)
set_option maxRecDepth 100000 in
theorem wd_464 : Cond.code ⟨"AntTrails$Colony", "pathAhead", "(LAntTrails$Ground;I)I"⟩ prog_2_method_7_code 5 (some .int) ∈ lw_tbl := mt2 (List.mem_of_getElem? (i := 211) rfl)
set_option maxRecDepth 100000 in
theorem wd_465 : Cond.methodLink "AntTrails$Colony" 99 ⟨"AntTrails$Ground", "lengthOf", "(I)I"⟩ ∈ lw_tbl := mt2 (List.mem_of_getElem? (i := 212) rfl)
set_option maxRecDepth 100000 in
theorem wd_466 : Cond.instanceMethod ⟨"AntTrails$Ground", "lengthOf", "(I)I"⟩ ∈ lw_tbl := mt2 (List.mem_of_getElem? (i := 213) rfl)
set_option maxRecDepth 100000 in
theorem wd_467 : Cond.selects "AntTrails$Ground" ⟨"AntTrails$Ground", "lengthOf", "(I)I"⟩ ⟨"AntTrails$Ground", "lengthOf", "(I)I"⟩ ∈ lw_tbl := mt2 (List.mem_of_getElem? (i := 214) rfl)
set_option maxRecDepth 100000 in
theorem wd_468 : Cond.code ⟨"AntTrails$Ground", "lengthOf", "(I)I"⟩ prog_3_method_9_code 2 (some .int) ∈ lw_tbl := mt2 (List.mem_of_getElem? (i := 215) rfl)
set_option maxRecDepth 100000 in
theorem wd_469 : Cond.methodLink "AntTrails$Colony" 109 ⟨"AntTrails$Way", "go", "(III)V"⟩ ∈ lw_tbl := mt2 (List.mem_of_getElem? (i := 216) rfl)
set_option maxRecDepth 100000 in
theorem wd_470 : Cond.instanceMethod ⟨"AntTrails$Way", "go", "(III)V"⟩ ∈ lw_tbl := mt2 (List.mem_of_getElem? (i := 217) rfl)
set_option maxRecDepth 100000 in
theorem wd_471 : Cond.selects "AntTrails$Way" ⟨"AntTrails$Way", "go", "(III)V"⟩ ⟨"AntTrails$Way", "go", "(III)V"⟩ ∈ lw_tbl := mt2 (List.mem_of_getElem? (i := 218) rfl)
set_option maxRecDepth 100000 in
theorem wd_472 : Cond.code ⟨"AntTrails$Way", "go", "(III)V"⟩ prog_7_method_3_code 4 none ∈ lw_tbl := mt2 (List.mem_of_getElem? (i := 219) rfl)
set_option maxRecDepth 100000 in
theorem wd_473 : Cond.methodLink "AntTrails$Colony" 51 ⟨"AntTrails$Ground", "countAnt", "(LAntTrails$Way;I)V"⟩ ∈ lw_tbl := mt2 (List.mem_of_getElem? (i := 220) rfl)
set_option maxRecDepth 100000 in
theorem wd_474 : Cond.instanceMethod ⟨"AntTrails$Ground", "countAnt", "(LAntTrails$Way;I)V"⟩ ∈ lw_tbl := mt2 (List.mem_of_getElem? (i := 221) rfl)
set_option maxRecDepth 100000 in
theorem wd_475 : Cond.selects "AntTrails$Ground" ⟨"AntTrails$Ground", "countAnt", "(LAntTrails$Way;I)V"⟩ ⟨"AntTrails$Ground", "countAnt", "(LAntTrails$Way;I)V"⟩ ∈ lw_tbl := mt2 (List.mem_of_getElem? (i := 222) rfl)
set_option maxRecDepth 100000 in
theorem wd_476 : Cond.code ⟨"AntTrails$Ground", "countAnt", "(LAntTrails$Way;I)V"⟩ prog_3_method_24_code 4 none ∈ lw_tbl := mt2 (List.mem_of_getElem? (i := 223) rfl)
set_option maxRecDepth 100000 in
theorem wd_477 : Cond.methodLink "AntTrails$Ground" 135 ⟨"AntTrails$Way", "hasPath", "(I)Z"⟩ ∈ lw_tbl := mt2 (List.mem_of_getElem? (i := 224) rfl)
set_option maxRecDepth 100000 in
theorem wd_478 : Cond.methodLink "AntTrails$Ground" 138 ⟨"AntTrails$Way", "hasPlace", "(I)Z"⟩ ∈ lw_tbl := mt2 (List.mem_of_getElem? (i := 225) rfl)
set_option maxRecDepth 100000 in
theorem wd_479 : Cond.methodLink "AntTrails$Ground" 141 ⟨"AntTrails$Way", "end", "()I"⟩ ∈ lw_tbl := mt2 (List.mem_of_getElem? (i := 226) rfl)
set_option maxRecDepth 100000 in
theorem wd_480 : Cond.methodLink "AntTrails$Ground" 103 ⟨"AntTrails$Ground", "isPlace", "(I)Z"⟩ ∈ lw_tbl := mt2 (List.mem_of_getElem? (i := 227) rfl)
set_option maxRecDepth 100000 in
theorem wd_481 : Cond.methodLink "AntTrails$Colony" 55 ⟨"AntTrails$Ground", "laidOn", "(LAntTrails$Way;)I"⟩ ∈ lw_tbl := mt2 (List.mem_of_getElem? (i := 228) rfl)
set_option maxRecDepth 100000 in
theorem wd_482 : Cond.instanceMethod ⟨"AntTrails$Ground", "laidOn", "(LAntTrails$Way;)I"⟩ ∈ lw_tbl := mt2 (List.mem_of_getElem? (i := 229) rfl)
set_option maxRecDepth 100000 in
theorem wd_483 : Cond.selects "AntTrails$Ground" ⟨"AntTrails$Ground", "laidOn", "(LAntTrails$Way;)I"⟩ ⟨"AntTrails$Ground", "laidOn", "(LAntTrails$Way;)I"⟩ ∈ lw_tbl := mt2 (List.mem_of_getElem? (i := 230) rfl)
set_option maxRecDepth 100000 in
theorem wd_484 : Cond.code ⟨"AntTrails$Ground", "laidOn", "(LAntTrails$Way;)I"⟩ prog_3_method_26_code 2 (some .int) ∈ lw_tbl := mt2 (List.mem_of_getElem? (i := 231) rfl)
set_option maxRecDepth 100000 in
theorem wd_485 : Cond.methodLink "AntTrails$Ground" 111 ⟨"AntTrails$Ground", "setting", "(I)I"⟩ ∈ lw_tbl := mt2 (List.mem_of_getElem? (i := 232) rfl)
set_option maxRecDepth 100000 in
theorem wd_486 : Cond.methodLink "AntTrails$Colony" 59 ⟨"AntTrails$Colony", "layTrail", "(I)V"⟩ ∈ lw_tbl := mt2 (List.mem_of_getElem? (i := 233) rfl)
set_option maxRecDepth 100000 in
theorem wd_488 : Cond.instanceMethod ⟨"AntTrails$Colony", "layTrail", "(I)V"⟩ ∈ lw_tbl := mt2 (List.mem_of_getElem? (i := 235) rfl)
set_option maxRecDepth 100000 in
theorem wd_489 : Cond.code ⟨"AntTrails$Colony", "layTrail", "(I)V"⟩ prog_2_method_4_code 3 none ∈ lw_tbl := mt2 (List.mem_of_getElem? (i := 236) rfl)
set_option maxRecDepth 100000 in
theorem wd_490 : Cond.methodLink "AntTrails$Colony" 75 ⟨"AntTrails$Way", "hasPath", "(I)Z"⟩ ∈ lw_tbl := mt2 (List.mem_of_getElem? (i := 237) rfl)
set_option maxRecDepth 100000 in
theorem wd_491 : Cond.methodLink "AntTrails$Colony" 63 ⟨"AntTrails$Ground", "keepIfBetter", "(LAntTrails$Way;)V"⟩ ∈ lw_tbl := mt2 (List.mem_of_getElem? (i := 238) rfl)
set_option maxRecDepth 100000 in
theorem wd_492 : Cond.instanceMethod ⟨"AntTrails$Ground", "keepIfBetter", "(LAntTrails$Way;)V"⟩ ∈ lw_tbl := mt2 (List.mem_of_getElem? (i := 239) rfl)
set_option maxRecDepth 100000 in
theorem wd_493 : Cond.selects "AntTrails$Ground" ⟨"AntTrails$Ground", "keepIfBetter", "(LAntTrails$Way;)V"⟩ ⟨"AntTrails$Ground", "keepIfBetter", "(LAntTrails$Way;)V"⟩ ∈ lw_tbl := mt3 (List.mem_of_getElem? (i := 0) rfl)
set_option maxRecDepth 100000 in
theorem wd_494 : Cond.code ⟨"AntTrails$Ground", "keepIfBetter", "(LAntTrails$Way;)V"⟩ prog_3_method_25_code 2 none ∈ lw_tbl := mt3 (List.mem_of_getElem? (i := 1) rfl)
set_option maxRecDepth 100000 in
theorem wd_495 : Cond.methodLink "AntTrails$Ground" 144 ⟨"AntTrails$Ground", "hasBest", "()Z"⟩ ∈ lw_tbl := mt3 (List.mem_of_getElem? (i := 2) rfl)
set_option maxRecDepth 100000 in
theorem wd_496 : Cond.methodLink "AntTrails$Colony" 67 ⟨"AntTrails$Ground", "changeTrails", "([I)V"⟩ ∈ lw_tbl := mt3 (List.mem_of_getElem? (i := 3) rfl)
set_option maxRecDepth 100000 in
theorem wd_497 : Cond.instanceMethod ⟨"AntTrails$Ground", "changeTrails", "([I)V"⟩ ∈ lw_tbl := mt3 (List.mem_of_getElem? (i := 4) rfl)
set_option maxRecDepth 100000 in
theorem wd_498 : Cond.selects "AntTrails$Ground" ⟨"AntTrails$Ground", "changeTrails", "([I)V"⟩ ⟨"AntTrails$Ground", "changeTrails", "([I)V"⟩ ∈ lw_tbl := mt3 (List.mem_of_getElem? (i := 5) rfl)
set_option maxRecDepth 100000 in
theorem wd_499 : Cond.code ⟨"AntTrails$Ground", "changeTrails", "([I)V"⟩ prog_3_method_27_code 5 none ∈ lw_tbl := mt3 (List.mem_of_getElem? (i := 6) rfl)
set_option maxRecDepth 100000 in
theorem wd_500 : Cond.methodLink "AntTrails$Ground" 151 ⟨"AntTrails$Ground", "laidOn", "(LAntTrails$Way;)I"⟩ ∈ lw_tbl := mt3 (List.mem_of_getElem? (i := 7) rfl)
set_option maxRecDepth 100000 in
theorem wd_501 : Cond.methodLink "AntTrails$Ground" 155 ⟨"java/lang/Math", "min", "(II)I"⟩ ∈ lw_tbl := mt3 (List.mem_of_getElem? (i := 8) rfl)
set_option maxRecDepth 100000 in
theorem wd_502 : Cond.methodLink "AntTrails" 195 ⟨"AntTrails", "isError", "(I)Z"⟩ ∈ lw_tbl := mt3 (List.mem_of_getElem? (i := 9) rfl)
set_option maxRecDepth 100000 in
theorem wd_503 : Cond.static ⟨"AntTrails", "isError", "(I)Z"⟩ ∈ lw_tbl := mt3 (List.mem_of_getElem? (i := 10) rfl)
set_option maxRecDepth 100000 in
theorem wd_504 : Cond.code ⟨"AntTrails", "isError", "(I)Z"⟩ prog_1_method_25_code 1 (some .boolean) ∈ lw_tbl := mt3 (List.mem_of_getElem? (i := 11) rfl)
set_option maxRecDepth 100000 in
theorem wd_505 : Cond.methodLink "AntTrailsLaw" 44 ⟨"AntTrails", "ant", "(I)I"⟩ ∈ lw_tbl := mt3 (List.mem_of_getElem? (i := 12) rfl)
set_option maxRecDepth 100000 in
theorem wd_506 : Cond.instanceMethod ⟨"AntTrails", "ant", "(I)I"⟩ ∈ lw_tbl := mt3 (List.mem_of_getElem? (i := 13) rfl)
set_option maxRecDepth 100000 in
theorem wd_507 : Cond.selects "AntTrails" ⟨"AntTrails", "ant", "(I)I"⟩ ⟨"AntTrails", "ant", "(I)I"⟩ ∈ lw_tbl := mt3 (List.mem_of_getElem? (i := 14) rfl)
set_option maxRecDepth 100000 in
theorem wd_508 : Cond.code ⟨"AntTrails", "ant", "(I)I"⟩ prog_1_method_16_code 3 (some .int) ∈ lw_tbl := mt3 (List.mem_of_getElem? (i := 15) rfl)
set_option maxRecDepth 100000 in
theorem wd_509 : Cond.methodLink "AntTrails" 170 ⟨"AntTrails$Ground", "hasFood", "()Z"⟩ ∈ lw_tbl := mt3 (List.mem_of_getElem? (i := 16) rfl)
set_option maxRecDepth 100000 in
theorem wd_510 : Cond.constant "AntTrails" 173 (-1000000002) ∈ lw_tbl := mt3 (List.mem_of_getElem? (i := 17) rfl)
set_option maxRecDepth 100000 in
theorem wd_511 : Cond.methodLink "AntTrails" 190 ⟨"AntTrails$Colony", "walk", "(LAntTrails$Ground;)I"⟩ ∈ lw_tbl := mt3 (List.mem_of_getElem? (i := 18) rfl)
set_option maxRecDepth 100000 in
theorem wd_512 : Cond.methodLink "AntTrails" 180 ⟨"AntTrails$Way", "end", "()I"⟩ ∈ lw_tbl := mt3 (List.mem_of_getElem? (i := 19) rfl)
set_option maxRecDepth 100000 in
theorem wd_513 : Cond.constant "AntTrailsLaw" 47 (-1000000001) ∈ lw_tbl := mt3 (List.mem_of_getElem? (i := 20) rfl)
set_option maxRecDepth 100000 in
theorem wd_514 : Cond.constant "AntTrailsLaw" 48 (-1000000002) ∈ lw_tbl := mt3 (List.mem_of_getElem? (i := 21) rfl)
set_option maxRecDepth 100000 in
theorem wd_515 : Cond.methodLink "AntTrailsLaw" 49 ⟨"AntTrails", "greedy", "(I)I"⟩ ∈ lw_tbl := mt3 (List.mem_of_getElem? (i := 22) rfl)
set_option maxRecDepth 100000 in
theorem wd_516 : Cond.instanceMethod ⟨"AntTrails", "greedy", "(I)I"⟩ ∈ lw_tbl := mt3 (List.mem_of_getElem? (i := 23) rfl)
set_option maxRecDepth 100000 in
theorem wd_517 : Cond.selects "AntTrails" ⟨"AntTrails", "greedy", "(I)I"⟩ ⟨"AntTrails", "greedy", "(I)I"⟩ ∈ lw_tbl := mt3 (List.mem_of_getElem? (i := 24) rfl)
set_option maxRecDepth 100000 in
theorem wd_518 : Cond.code ⟨"AntTrails", "greedy", "(I)I"⟩ prog_1_method_14_code 2 (some .int) ∈ lw_tbl := mt3 (List.mem_of_getElem? (i := 25) rfl)
set_option maxRecDepth 100000 in
theorem wd_519 : Cond.methodLink "AntTrails" 174 ⟨"AntTrails$Survey", "followTrails", "(LAntTrails$Ground;)V"⟩ ∈ lw_tbl := mt3 (List.mem_of_getElem? (i := 26) rfl)
set_option maxRecDepth 100000 in
theorem wd_520 : Cond.instanceMethod ⟨"AntTrails$Survey", "followTrails", "(LAntTrails$Ground;)V"⟩ ∈ lw_tbl := mt3 (List.mem_of_getElem? (i := 27) rfl)
set_option maxRecDepth 100000 in
theorem wd_521 : Cond.selects "AntTrails$Survey" ⟨"AntTrails$Survey", "followTrails", "(LAntTrails$Ground;)V"⟩ ⟨"AntTrails$Survey", "followTrails", "(LAntTrails$Ground;)V"⟩ ∈ lw_tbl := mt3 (List.mem_of_getElem? (i := 28) rfl)
set_option maxRecDepth 100000 in
theorem wd_522 : Cond.code ⟨"AntTrails$Survey", "followTrails", "(LAntTrails$Ground;)V"⟩ prog_6_method_4_code 4 none ∈ lw_tbl := mt3 (List.mem_of_getElem? (i := 29) rfl)
set_option maxRecDepth 100000 in
theorem wd_523 : Cond.methodLink "AntTrails$Survey" 66 ⟨"AntTrails$Way", "begin", "()V"⟩ ∈ lw_tbl := mt3 (List.mem_of_getElem? (i := 30) rfl)
set_option maxRecDepth 100000 in
theorem wd_524 : Cond.methodLink "AntTrails$Survey" 69 ⟨"AntTrails$Way", "end", "()I"⟩ ∈ lw_tbl := mt3 (List.mem_of_getElem? (i := 31) rfl)
set_option maxRecDepth 100000 in
theorem wd_525 : Cond.methodLink "AntTrails$Survey" 76 ⟨"AntTrails$Survey", "greatestAhead", "(LAntTrails$Ground;)I"⟩ ∈ lw_tbl := mt3 (List.mem_of_getElem? (i := 32) rfl)
set_option maxRecDepth 100000 in
theorem wd_527 : Cond.instanceMethod ⟨"AntTrails$Survey", "greatestAhead", "(LAntTrails$Ground;)I"⟩ ∈ lw_tbl := mt3 (List.mem_of_getElem? (i := 34) rfl)
set_option maxRecDepth 100000 in
theorem wd_528 : Cond.code ⟨"AntTrails$Survey", "greatestAhead", "(LAntTrails$Ground;)I"⟩ prog_6_method_5_code 6 (some .int) ∈ lw_tbl := mt3 (List.mem_of_getElem? (i := 35) rfl)
set_option maxRecDepth 100000 in
theorem wd_529 : Cond.methodLink "AntTrails$Survey" 80 ⟨"AntTrails$Ground", "across", "(II)I"⟩ ∈ lw_tbl := mt3 (List.mem_of_getElem? (i := 36) rfl)
set_option maxRecDepth 100000 in
theorem wd_530 : Cond.methodLink "AntTrails$Survey" 91 ⟨"AntTrails$Way", "isNew", "(I)Z"⟩ ∈ lw_tbl := mt3 (List.mem_of_getElem? (i := 37) rfl)
set_option maxRecDepth 100000 in
theorem wd_531 : Cond.methodLink "AntTrails$Survey" 94 ⟨"AntTrails$Survey", "isGreater", "(LAntTrails$Ground;II)Z"⟩ ∈ lw_tbl := mt3 (List.mem_of_getElem? (i := 38) rfl)
set_option maxRecDepth 100000 in
theorem wd_532 : Cond.static ⟨"AntTrails$Survey", "isGreater", "(LAntTrails$Ground;II)Z"⟩ ∈ lw_tbl := mt3 (List.mem_of_getElem? (i := 39) rfl)
set_option maxRecDepth 100000 in
theorem wd_533 : Cond.code ⟨"AntTrails$Survey", "isGreater", "(LAntTrails$Ground;II)Z"⟩ prog_6_method_6_code 3 (some .boolean) ∈ lw_tbl := mt3 (List.mem_of_getElem? (i := 40) rfl)
set_option maxRecDepth 100000 in
theorem wd_534 : Cond.methodLink "AntTrails$Survey" 83 ⟨"AntTrails$Ground", "lengthOf", "(I)I"⟩ ∈ lw_tbl := mt3 (List.mem_of_getElem? (i := 41) rfl)
set_option maxRecDepth 100000 in
theorem wd_535 : Cond.methodLink "AntTrails$Survey" 87 ⟨"AntTrails$Way", "go", "(III)V"⟩ ∈ lw_tbl := mt3 (List.mem_of_getElem? (i := 42) rfl)
set_option maxRecDepth 100000 in
theorem wd_536 : Cond.methodLink "AntTrailsLaw" 52 ⟨"AntTrails", "over", "()I"⟩ ∈ lw_tbl := mt3 (List.mem_of_getElem? (i := 43) rfl)
set_option maxRecDepth 100000 in
theorem wd_537 : Cond.instanceMethod ⟨"AntTrails", "over", "()I"⟩ ∈ lw_tbl := mt3 (List.mem_of_getElem? (i := 44) rfl)
set_option maxRecDepth 100000 in
theorem wd_538 : Cond.selects "AntTrails" ⟨"AntTrails", "over", "()I"⟩ ⟨"AntTrails", "over", "()I"⟩ ∈ lw_tbl := mt3 (List.mem_of_getElem? (i := 45) rfl)
set_option maxRecDepth 100000 in
theorem wd_539 : Cond.code ⟨"AntTrails", "over", "()I"⟩ prog_1_method_15_code 2 (some .int) ∈ lw_tbl := mt3 (List.mem_of_getElem? (i := 46) rfl)
set_option maxRecDepth 100000 in
theorem wd_540 : Cond.methodLink "AntTrailsLaw" 123 ⟨"AntTrailsLaw", "acts", "(LAntTrails;II)Z"⟩ ∈ lw_tbl := mt3 (List.mem_of_getElem? (i := 47) rfl)
set_option maxRecDepth 100000 in
theorem wd_541 : Cond.static ⟨"AntTrailsLaw", "acts", "(LAntTrails;II)Z"⟩ ∈ lw_tbl := mt3 (List.mem_of_getElem? (i := 48) rfl)
set_option maxRecDepth 100000 in
theorem wd_542 : Cond.code ⟨"AntTrailsLaw", "acts", "(LAntTrails;II)Z"⟩ method_11_code 12 (some .boolean) ∈ lw_tbl := mt3 (List.mem_of_getElem? (i := 49) rfl)
set_option maxRecDepth 100000 in
theorem wd_543 : Cond.methodLink "AntTrailsLaw" 75 ⟨"AntTrails", "place", "()I"⟩ ∈ lw_tbl := mt3 (List.mem_of_getElem? (i := 50) rfl)
set_option maxRecDepth 100000 in
theorem wd_544 : Cond.instanceMethod ⟨"AntTrails", "place", "()I"⟩ ∈ lw_tbl := mt3 (List.mem_of_getElem? (i := 51) rfl)
set_option maxRecDepth 100000 in
theorem wd_545 : Cond.selects "AntTrails" ⟨"AntTrails", "place", "()I"⟩ ⟨"AntTrails", "place", "()I"⟩ ∈ lw_tbl := mt3 (List.mem_of_getElem? (i := 52) rfl)
set_option maxRecDepth 100000 in
theorem wd_546 : Cond.code ⟨"AntTrails", "place", "()I"⟩ prog_1_method_2_code 1 (some .int) ∈ lw_tbl := mt3 (List.mem_of_getElem? (i := 53) rfl)
set_option maxRecDepth 100000 in
theorem wd_547 : Cond.methodLink "AntTrails" 47 ⟨"AntTrails$History", "prepare", "(LAntTrails$Ground;)V"⟩ ∈ lw_tbl := mt3 (List.mem_of_getElem? (i := 54) rfl)
set_option maxRecDepth 100000 in
theorem wd_548 : Cond.instanceMethod ⟨"AntTrails$History", "prepare", "(LAntTrails$Ground;)V"⟩ ∈ lw_tbl := mt3 (List.mem_of_getElem? (i := 55) rfl)
set_option maxRecDepth 100000 in
theorem wd_549 : Cond.selects "AntTrails$History" ⟨"AntTrails$History", "prepare", "(LAntTrails$Ground;)V"⟩ ⟨"AntTrails$History", "prepare", "(LAntTrails$Ground;)V"⟩ ∈ lw_tbl := mt3 (List.mem_of_getElem? (i := 56) rfl)
set_option maxRecDepth 100000 in
theorem wd_550 : Cond.code ⟨"AntTrails$History", "prepare", "(LAntTrails$Ground;)V"⟩ prog_4_method_2_code 2 none ∈ lw_tbl := mt3 (List.mem_of_getElem? (i := 57) rfl)
set_option maxRecDepth 100000 in
theorem wd_551 : Cond.methodLink "AntTrails" 51 ⟨"AntTrails$Ground", "addPlace", "()I"⟩ ∈ lw_tbl := mt3 (List.mem_of_getElem? (i := 58) rfl)
set_option maxRecDepth 100000 in
theorem wd_552 : Cond.instanceMethod ⟨"AntTrails$Ground", "addPlace", "()I"⟩ ∈ lw_tbl := mt3 (List.mem_of_getElem? (i := 59) rfl)
set_option maxRecDepth 100000 in
theorem wd_553 : Cond.selects "AntTrails$Ground" ⟨"AntTrails$Ground", "addPlace", "()I"⟩ ⟨"AntTrails$Ground", "addPlace", "()I"⟩ ∈ lw_tbl := mt3 (List.mem_of_getElem? (i := 60) rfl)
set_option maxRecDepth 100000 in
theorem wd_554 : Cond.code ⟨"AntTrails$Ground", "addPlace", "()I"⟩ prog_3_method_17_code 1 (some .int) ∈ lw_tbl := mt3 (List.mem_of_getElem? (i := 61) rfl)
set_option maxRecDepth 100000 in
theorem wd_555 : Cond.constant "AntTrails$Ground" 102 (-1000000003) ∈ lw_tbl := mt3 (List.mem_of_getElem? (i := 62) rfl)
set_option maxRecDepth 100000 in
theorem wd_556 : Cond.methodLink "AntTrails" 55 ⟨"AntTrails$History", "settle", "(I)I"⟩ ∈ lw_tbl := mt3 (List.mem_of_getElem? (i := 63) rfl)
set_option maxRecDepth 100000 in
theorem wd_557 : Cond.instanceMethod ⟨"AntTrails$History", "settle", "(I)I"⟩ ∈ lw_tbl := mt3 (List.mem_of_getElem? (i := 64) rfl)
set_option maxRecDepth 100000 in
theorem wd_558 : Cond.selects "AntTrails$History" ⟨"AntTrails$History", "settle", "(I)I"⟩ ⟨"AntTrails$History", "settle", "(I)I"⟩ ∈ lw_tbl := mt3 (List.mem_of_getElem? (i := 65) rfl)
set_option maxRecDepth 100000 in
theorem wd_559 : Cond.code ⟨"AntTrails$History", "settle", "(I)I"⟩ prog_4_method_3_code 2 (some .int) ∈ lw_tbl := mt3 (List.mem_of_getElem? (i := 66) rfl)
set_option maxRecDepth 100000 in
theorem wd_560 : Cond.methodLinkNest "AntTrails$History" 26 ⟨"AntTrails", "isError", "(I)Z"⟩ "AntTrails" ∈ lw_tbl := mt3 (List.mem_of_getElem? (i := 67) rfl)
set_option maxRecDepth 100000 in
theorem wd_561 : Cond.methodLink "AntTrails$History" 30 ⟨"AntTrails$History", "dropOldest", "()V"⟩ ∈ lw_tbl := mt3 (List.mem_of_getElem? (i := 68) rfl)
set_option maxRecDepth 100000 in
theorem wd_563 : Cond.instanceMethod ⟨"AntTrails$History", "dropOldest", "()V"⟩ ∈ lw_tbl := mt3 (List.mem_of_getElem? (i := 70) rfl)
set_option maxRecDepth 100000 in
theorem wd_564 : Cond.code ⟨"AntTrails$History", "dropOldest", "()V"⟩ prog_4_method_4_code 3 none ∈ lw_tbl := mt3 (List.mem_of_getElem? (i := 71) rfl)
set_option maxRecDepth 100000 in
theorem wd_565 : Cond.constant "AntTrailsLaw" 78 (-1000000003) ∈ lw_tbl := mt3 (List.mem_of_getElem? (i := 72) rfl)
set_option maxRecDepth 100000 in
theorem wd_566 : Cond.methodLink "AntTrailsLaw" 79 ⟨"AntTrails", "path", "(III)I"⟩ ∈ lw_tbl := mt3 (List.mem_of_getElem? (i := 73) rfl)
set_option maxRecDepth 100000 in
theorem wd_567 : Cond.instanceMethod ⟨"AntTrails", "path", "(III)I"⟩ ∈ lw_tbl := mt3 (List.mem_of_getElem? (i := 74) rfl)
set_option maxRecDepth 100000 in
theorem wd_568 : Cond.selects "AntTrails" ⟨"AntTrails", "path", "(III)I"⟩ ⟨"AntTrails", "path", "(III)I"⟩ ∈ lw_tbl := mt3 (List.mem_of_getElem? (i := 75) rfl)
set_option maxRecDepth 100000 in
theorem wd_569 : Cond.code ⟨"AntTrails", "path", "(III)I"⟩ prog_1_method_3_code 4 (some .int) ∈ lw_tbl := mt3 (List.mem_of_getElem? (i := 76) rfl)
set_option maxRecDepth 100000 in
theorem wd_570 : Cond.methodLink "AntTrails" 59 ⟨"AntTrails$Ground", "addPath", "(III)I"⟩ ∈ lw_tbl := mt3 (List.mem_of_getElem? (i := 77) rfl)
set_option maxRecDepth 100000 in
theorem wd_571 : Cond.instanceMethod ⟨"AntTrails$Ground", "addPath", "(III)I"⟩ ∈ lw_tbl := mt3 (List.mem_of_getElem? (i := 78) rfl)
set_option maxRecDepth 100000 in
theorem wd_572 : Cond.selects "AntTrails$Ground" ⟨"AntTrails$Ground", "addPath", "(III)I"⟩ ⟨"AntTrails$Ground", "addPath", "(III)I"⟩ ∈ lw_tbl := mt3 (List.mem_of_getElem? (i := 79) rfl)
set_option maxRecDepth 100000 in
theorem wd_573 : Cond.code ⟨"AntTrails$Ground", "addPath", "(III)I"⟩ prog_3_method_18_code 5 (some .int) ∈ lw_tbl := mt3 (List.mem_of_getElem? (i := 80) rfl)
set_option maxRecDepth 100000 in
theorem wd_574 : Cond.methodLinkNest "AntTrails$Ground" 106 ⟨"AntTrails", "isWithin", "(III)Z"⟩ "AntTrails" ∈ lw_tbl := mt3 (List.mem_of_getElem? (i := 81) rfl)
set_option maxRecDepth 100000 in
theorem wd_575 : Cond.constant "AntTrails$Ground" 110 (-1000000001) ∈ lw_tbl := mt3 (List.mem_of_getElem? (i := 82) rfl)
set_option maxRecDepth 100000 in
theorem wd_576 : Cond.methodLink "AntTrailsLaw" 83 ⟨"AntTrails", "close", "(IZ)I"⟩ ∈ lw_tbl := mt3 (List.mem_of_getElem? (i := 83) rfl)
set_option maxRecDepth 100000 in
theorem wd_577 : Cond.instanceMethod ⟨"AntTrails", "close", "(IZ)I"⟩ ∈ lw_tbl := mt3 (List.mem_of_getElem? (i := 84) rfl)
set_option maxRecDepth 100000 in
theorem wd_578 : Cond.selects "AntTrails" ⟨"AntTrails", "close", "(IZ)I"⟩ ⟨"AntTrails", "close", "(IZ)I"⟩ ∈ lw_tbl := mt3 (List.mem_of_getElem? (i := 85) rfl)
set_option maxRecDepth 100000 in
theorem wd_579 : Cond.code ⟨"AntTrails", "close", "(IZ)I"⟩ prog_1_method_4_code 3 (some .int) ∈ lw_tbl := mt3 (List.mem_of_getElem? (i := 86) rfl)
set_option maxRecDepth 100000 in
theorem wd_580 : Cond.methodLink "AntTrails" 63 ⟨"AntTrails$Ground", "bar", "(IZ)I"⟩ ∈ lw_tbl := mt3 (List.mem_of_getElem? (i := 87) rfl)
set_option maxRecDepth 100000 in
theorem wd_581 : Cond.instanceMethod ⟨"AntTrails$Ground", "bar", "(IZ)I"⟩ ∈ lw_tbl := mt3 (List.mem_of_getElem? (i := 88) rfl)
set_option maxRecDepth 100000 in
theorem wd_582 : Cond.selects "AntTrails$Ground" ⟨"AntTrails$Ground", "bar", "(IZ)I"⟩ ⟨"AntTrails$Ground", "bar", "(IZ)I"⟩ ∈ lw_tbl := mt3 (List.mem_of_getElem? (i := 89) rfl)
set_option maxRecDepth 100000 in
theorem wd_583 : Cond.code ⟨"AntTrails$Ground", "bar", "(IZ)I"⟩ prog_3_method_19_code 3 (some .int) ∈ lw_tbl := mt3 (List.mem_of_getElem? (i := 90) rfl)
set_option maxRecDepth 100000 in
theorem wd_584 : Cond.constant "AntTrails$Ground" 114 (-1000000002) ∈ lw_tbl := mt3 (List.mem_of_getElem? (i := 91) rfl)
set_option maxRecDepth 100000 in
theorem wd_585 : Cond.methodLink "AntTrails$Ground" 115 ⟨"AntTrails$Ground", "openPaths", "()I"⟩ ∈ lw_tbl := mt3 (List.mem_of_getElem? (i := 92) rfl)
set_option maxRecDepth 100000 in
theorem wd_586 : Cond.methodLink "AntTrailsLaw" 87 ⟨"AntTrails", "food", "(I)I"⟩ ∈ lw_tbl := mt3 (List.mem_of_getElem? (i := 93) rfl)
set_option maxRecDepth 100000 in
theorem wd_587 : Cond.instanceMethod ⟨"AntTrails", "food", "(I)I"⟩ ∈ lw_tbl := mt3 (List.mem_of_getElem? (i := 94) rfl)
set_option maxRecDepth 100000 in
theorem wd_588 : Cond.selects "AntTrails" ⟨"AntTrails", "food", "(I)I"⟩ ⟨"AntTrails", "food", "(I)I"⟩ ∈ lw_tbl := mt3 (List.mem_of_getElem? (i := 95) rfl)
set_option maxRecDepth 100000 in
theorem wd_589 : Cond.code ⟨"AntTrails", "food", "(I)I"⟩ prog_1_method_5_code 2 (some .int) ∈ lw_tbl := mt3 (List.mem_of_getElem? (i := 96) rfl)
set_option maxRecDepth 100000 in
theorem wd_590 : Cond.methodLink "AntTrails" 67 ⟨"AntTrails$Ground", "moveFood", "(I)I"⟩ ∈ lw_tbl := mt3 (List.mem_of_getElem? (i := 97) rfl)
set_option maxRecDepth 100000 in
theorem wd_591 : Cond.instanceMethod ⟨"AntTrails$Ground", "moveFood", "(I)I"⟩ ∈ lw_tbl := mt3 (List.mem_of_getElem? (i := 98) rfl)
set_option maxRecDepth 100000 in
theorem wd_592 : Cond.selects "AntTrails$Ground" ⟨"AntTrails$Ground", "moveFood", "(I)I"⟩ ⟨"AntTrails$Ground", "moveFood", "(I)I"⟩ ∈ lw_tbl := mt3 (List.mem_of_getElem? (i := 99) rfl)
set_option maxRecDepth 100000 in
theorem wd_593 : Cond.code ⟨"AntTrails$Ground", "moveFood", "(I)I"⟩ prog_3_method_20_code 3 (some .int) ∈ lw_tbl := mt3 (List.mem_of_getElem? (i := 100) rfl)
set_option maxRecDepth 100000 in
theorem wd_594 : Cond.methodLink "AntTrails$Ground" 119 ⟨"AntTrails$Way", "begin", "()V"⟩ ∈ lw_tbl := mt3 (List.mem_of_getElem? (i := 101) rfl)
set_option maxRecDepth 100000 in
theorem wd_595 : Cond.methodLink "AntTrailsLaw" 90 ⟨"AntTrails", "forget", "()I"⟩ ∈ lw_tbl := mt3 (List.mem_of_getElem? (i := 102) rfl)
set_option maxRecDepth 100000 in
theorem wd_596 : Cond.instanceMethod ⟨"AntTrails", "forget", "()I"⟩ ∈ lw_tbl := mt3 (List.mem_of_getElem? (i := 103) rfl)
set_option maxRecDepth 100000 in
theorem wd_597 : Cond.selects "AntTrails" ⟨"AntTrails", "forget", "()I"⟩ ⟨"AntTrails", "forget", "()I"⟩ ∈ lw_tbl := mt3 (List.mem_of_getElem? (i := 104) rfl)
set_option maxRecDepth 100000 in
theorem wd_598 : Cond.code ⟨"AntTrails", "forget", "()I"⟩ prog_1_method_7_code 1 (some .int) ∈ lw_tbl := mt3 (List.mem_of_getElem? (i := 105) rfl)
set_option maxRecDepth 100000 in
theorem wd_599 : Cond.methodLink "AntTrails" 74 ⟨"AntTrails$Ground", "clearTrails", "()I"⟩ ∈ lw_tbl := mt3 (List.mem_of_getElem? (i := 106) rfl)
set_option maxRecDepth 100000 in
theorem wd_600 : Cond.instanceMethod ⟨"AntTrails$Ground", "clearTrails", "()I"⟩ ∈ lw_tbl := mt3 (List.mem_of_getElem? (i := 107) rfl)
set_option maxRecDepth 100000 in
theorem wd_601 : Cond.selects "AntTrails$Ground" ⟨"AntTrails$Ground", "clearTrails", "()I"⟩ ⟨"AntTrails$Ground", "clearTrails", "()I"⟩ ∈ lw_tbl := mt3 (List.mem_of_getElem? (i := 108) rfl)
set_option maxRecDepth 100000 in
theorem wd_602 : Cond.code ⟨"AntTrails$Ground", "clearTrails", "()I"⟩ prog_3_method_21_code 3 (some .int) ∈ lw_tbl := mt3 (List.mem_of_getElem? (i := 109) rfl)
set_option maxRecDepth 100000 in
theorem wd_603 : Cond.methodLink "AntTrails$Ground" 122 ⟨"AntTrails$Ground", "allTrails", "()I"⟩ ∈ lw_tbl := mt3 (List.mem_of_getElem? (i := 110) rfl)
set_option maxRecDepth 100000 in
theorem wd_604 : Cond.methodLink "AntTrailsLaw" 93 ⟨"AntTrails", "set", "(II)I"⟩ ∈ lw_tbl := mt3 (List.mem_of_getElem? (i := 111) rfl)
set_option maxRecDepth 100000 in
theorem wd_605 : Cond.instanceMethod ⟨"AntTrails", "set", "(II)I"⟩ ∈ lw_tbl := mt3 (List.mem_of_getElem? (i := 112) rfl)
set_option maxRecDepth 100000 in
theorem wd_606 : Cond.selects "AntTrails" ⟨"AntTrails", "set", "(II)I"⟩ ⟨"AntTrails", "set", "(II)I"⟩ ∈ lw_tbl := mt3 (List.mem_of_getElem? (i := 113) rfl)
set_option maxRecDepth 100000 in
theorem wd_607 : Cond.code ⟨"AntTrails", "set", "(II)I"⟩ prog_1_method_8_code 3 (some .int) ∈ lw_tbl := mt3 (List.mem_of_getElem? (i := 114) rfl)
set_option maxRecDepth 100000 in
theorem wd_608 : Cond.methodLink "AntTrails" 77 ⟨"AntTrails$Ground", "changeSetting", "(II)I"⟩ ∈ lw_tbl := mt3 (List.mem_of_getElem? (i := 115) rfl)
set_option maxRecDepth 100000 in
theorem wd_609 : Cond.instanceMethod ⟨"AntTrails$Ground", "changeSetting", "(II)I"⟩ ∈ lw_tbl := mt3 (List.mem_of_getElem? (i := 116) rfl)
set_option maxRecDepth 100000 in
theorem wd_610 : Cond.selects "AntTrails$Ground" ⟨"AntTrails$Ground", "changeSetting", "(II)I"⟩ ⟨"AntTrails$Ground", "changeSetting", "(II)I"⟩ ∈ lw_tbl := mt3 (List.mem_of_getElem? (i := 117) rfl)
set_option maxRecDepth 100000 in
theorem wd_611 : Cond.code ⟨"AntTrails$Ground", "changeSetting", "(II)I"⟩ prog_3_method_22_code 4 (some .int) ∈ lw_tbl := mt3 (List.mem_of_getElem? (i := 118) rfl)
set_option maxRecDepth 100000 in
theorem wd_612 : Cond.fieldLinkNest "AntTrails$Ground" 125 "AntTrails" "LEAST" "[I" "AntTrails" ∈ lw_tbl := mt3 (List.mem_of_getElem? (i := 119) rfl)
set_option maxRecDepth 100000 in
theorem wd_613 : Cond.laysStatic "AntTrails" "LEAST" "[I" ∈ lw_tbl := mt3 (List.mem_of_getElem? (i := 120) rfl)
set_option maxRecDepth 100000 in
theorem wd_614 : Cond.fieldLinkNest "AntTrails$Ground" 128 "AntTrails" "MOST" "[I" "AntTrails" ∈ lw_tbl := mt3 (List.mem_of_getElem? (i := 121) rfl)
set_option maxRecDepth 100000 in
theorem wd_615 : Cond.laysStatic "AntTrails" "MOST" "[I" ∈ lw_tbl := mt3 (List.mem_of_getElem? (i := 122) rfl)
set_option maxRecDepth 100000 in
theorem wd_616 : Cond.methodLink "AntTrailsLaw" 96 ⟨"AntTrailsLaw", "laps", "(LAntTrails;I)Z"⟩ ∈ lw_tbl := mt3 (List.mem_of_getElem? (i := 123) rfl)
set_option maxRecDepth 100000 in
theorem wd_617 : Cond.static ⟨"AntTrailsLaw", "laps", "(LAntTrails;I)Z"⟩ ∈ lw_tbl := mt3 (List.mem_of_getElem? (i := 124) rfl)
set_option maxRecDepth 100000 in
theorem wd_618 : Cond.code ⟨"AntTrailsLaw", "laps", "(LAntTrails;I)Z"⟩ method_10_code 11 (some .boolean) ∈ lw_tbl := mt3 (List.mem_of_getElem? (i := 125) rfl)
set_option maxRecDepth 100000 in
theorem wd_619 : Cond.methodLink "AntTrailsLaw" 72 ⟨"AntTrails", "lap", "(I)I"⟩ ∈ lw_tbl := mt3 (List.mem_of_getElem? (i := 126) rfl)
set_option maxRecDepth 100000 in
theorem wd_620 : Cond.instanceMethod ⟨"AntTrails", "lap", "(I)I"⟩ ∈ lw_tbl := mt3 (List.mem_of_getElem? (i := 127) rfl)
set_option maxRecDepth 100000 in
theorem wd_621 : Cond.selects "AntTrails" ⟨"AntTrails", "lap", "(I)I"⟩ ⟨"AntTrails", "lap", "(I)I"⟩ ∈ lw_tbl := mt3 (List.mem_of_getElem? (i := 128) rfl)
set_option maxRecDepth 100000 in
theorem wd_622 : Cond.code ⟨"AntTrails", "lap", "(I)I"⟩ prog_1_method_6_code 2 (some .int) ∈ lw_tbl := mt3 (List.mem_of_getElem? (i := 129) rfl)
set_option maxRecDepth 100000 in
theorem wd_623 : Cond.methodLink "AntTrailsLaw" 99 ⟨"AntTrailsLaw", "types", "(LAntTrails;I)Z"⟩ ∈ lw_tbl := mt3 (List.mem_of_getElem? (i := 130) rfl)
set_option maxRecDepth 100000 in
theorem wd_624 : Cond.static ⟨"AntTrailsLaw", "types", "(LAntTrails;I)Z"⟩ ∈ lw_tbl := mt3 (List.mem_of_getElem? (i := 131) rfl)
set_option maxRecDepth 100000 in
theorem wd_625 : Cond.code ⟨"AntTrailsLaw", "types", "(LAntTrails;I)Z"⟩ method_8_code 10 (some .boolean) ∈ lw_tbl := mt3 (List.mem_of_getElem? (i := 132) rfl)
set_option maxRecDepth 100000 in
theorem wd_626 : Cond.methodLink "AntTrailsLaw" 59 ⟨"AntTrails", "clearText", "()I"⟩ ∈ lw_tbl := mt3 (List.mem_of_getElem? (i := 133) rfl)
set_option maxRecDepth 100000 in
theorem wd_627 : Cond.instanceMethod ⟨"AntTrails", "clearText", "()I"⟩ ∈ lw_tbl := mt3 (List.mem_of_getElem? (i := 134) rfl)
set_option maxRecDepth 100000 in
theorem wd_628 : Cond.selects "AntTrails" ⟨"AntTrails", "clearText", "()I"⟩ ⟨"AntTrails", "clearText", "()I"⟩ ∈ lw_tbl := mt3 (List.mem_of_getElem? (i := 135) rfl)
set_option maxRecDepth 100000 in
theorem wd_629 : Cond.code ⟨"AntTrails", "clearText", "()I"⟩ prog_1_method_21_code 1 (some .int) ∈ lw_tbl := mt3 (List.mem_of_getElem? (i := 136) rfl)
set_option maxRecDepth 100000 in
theorem wd_630 : Cond.methodLink "AntTrails" 235 ⟨"AntTrails$Orders", "clear", "()I"⟩ ∈ lw_tbl := mt3 (List.mem_of_getElem? (i := 137) rfl)
set_option maxRecDepth 100000 in
theorem wd_631 : Cond.instanceMethod ⟨"AntTrails$Orders", "clear", "()I"⟩ ∈ lw_tbl := mt3 (List.mem_of_getElem? (i := 138) rfl)
set_option maxRecDepth 100000 in
theorem wd_632 : Cond.selects "AntTrails$Orders" ⟨"AntTrails$Orders", "clear", "()I"⟩ ⟨"AntTrails$Orders", "clear", "()I"⟩ ∈ lw_tbl := mt3 (List.mem_of_getElem? (i := 139) rfl)
set_option maxRecDepth 100000 in
theorem wd_633 : Cond.code ⟨"AntTrails$Orders", "clear", "()I"⟩ prog_5_method_3_code 2 (some .int) ∈ lw_tbl := mt3 (List.mem_of_getElem? (i := 140) rfl)
set_option maxRecDepth 100000 in
theorem wd_634 : Cond.methodLink "AntTrailsLaw" 56 ⟨"AntTrails", "type", "(I)I"⟩ ∈ lw_tbl := mt3 (List.mem_of_getElem? (i := 141) rfl)
set_option maxRecDepth 100000 in
theorem wd_635 : Cond.instanceMethod ⟨"AntTrails", "type", "(I)I"⟩ ∈ lw_tbl := mt3 (List.mem_of_getElem? (i := 142) rfl)
set_option maxRecDepth 100000 in
theorem wd_636 : Cond.selects "AntTrails" ⟨"AntTrails", "type", "(I)I"⟩ ⟨"AntTrails", "type", "(I)I"⟩ ∈ lw_tbl := mt3 (List.mem_of_getElem? (i := 143) rfl)
set_option maxRecDepth 100000 in
theorem wd_637 : Cond.code ⟨"AntTrails", "type", "(I)I"⟩ prog_1_method_20_code 2 (some .int) ∈ lw_tbl := mt3 (List.mem_of_getElem? (i := 144) rfl)
set_option maxRecDepth 100000 in
theorem wd_638 : Cond.methodLink "AntTrails" 232 ⟨"AntTrails$Orders", "append", "(I)I"⟩ ∈ lw_tbl := mt3 (List.mem_of_getElem? (i := 145) rfl)
set_option maxRecDepth 100000 in
theorem wd_639 : Cond.instanceMethod ⟨"AntTrails$Orders", "append", "(I)I"⟩ ∈ lw_tbl := mt3 (List.mem_of_getElem? (i := 146) rfl)
set_option maxRecDepth 100000 in
theorem wd_640 : Cond.selects "AntTrails$Orders" ⟨"AntTrails$Orders", "append", "(I)I"⟩ ⟨"AntTrails$Orders", "append", "(I)I"⟩ ∈ lw_tbl := mt3 (List.mem_of_getElem? (i := 147) rfl)
set_option maxRecDepth 100000 in
theorem wd_641 : Cond.code ⟨"AntTrails$Orders", "append", "(I)I"⟩ prog_5_method_2_code 2 (some .int) ∈ lw_tbl := mt3 (List.mem_of_getElem? (i := 148) rfl)
set_option maxRecDepth 100000 in
theorem wd_642 : Cond.methodLinkNest "AntTrails$Orders" 38 ⟨"AntTrails", "isWithin", "(III)Z"⟩ "AntTrails" ∈ lw_tbl := mt3 (List.mem_of_getElem? (i := 149) rfl)
set_option maxRecDepth 100000 in
theorem wd_643 : Cond.constant "AntTrails$Orders" 42 (-1000000001) ∈ lw_tbl := mt3 (List.mem_of_getElem? (i := 150) rfl)
set_option maxRecDepth 100000 in
theorem wd_644 : Cond.constant "AntTrails$Orders" 43 (-1000000003) ∈ lw_tbl := mt3 (List.mem_of_getElem? (i := 151) rfl)
set_option maxRecDepth 100000 in
theorem wd_645 : Cond.methodLink "AntTrailsLaw" 62 ⟨"AntTrailsLaw", "digits", "(LAntTrails;I)Z"⟩ ∈ lw_tbl := mt3 (List.mem_of_getElem? (i := 152) rfl)
set_option maxRecDepth 100000 in
theorem wd_646 : Cond.static ⟨"AntTrailsLaw", "digits", "(LAntTrails;I)Z"⟩ ∈ lw_tbl := mt3 (List.mem_of_getElem? (i := 153) rfl)
set_option maxRecDepth 100000 in
theorem wd_647 : Cond.code ⟨"AntTrailsLaw", "digits", "(LAntTrails;I)Z"⟩ method_7_code 2 (some .boolean) ∈ lw_tbl := mt3 (List.mem_of_getElem? (i := 154) rfl)
set_option maxRecDepth 100000 in
theorem wd_648 : Cond.methodLink "AntTrailsLaw" 102 ⟨"AntTrailsLaw", "reads", "(LAntTrails;)Z"⟩ ∈ lw_tbl := mt3 (List.mem_of_getElem? (i := 155) rfl)
set_option maxRecDepth 100000 in
theorem wd_649 : Cond.static ⟨"AntTrailsLaw", "reads", "(LAntTrails;)Z"⟩ ∈ lw_tbl := mt3 (List.mem_of_getElem? (i := 156) rfl)
set_option maxRecDepth 100000 in
theorem wd_650 : Cond.code ⟨"AntTrailsLaw", "reads", "(LAntTrails;)Z"⟩ method_9_code 8 (some .boolean) ∈ lw_tbl := mt3 (List.mem_of_getElem? (i := 157) rfl)
set_option maxRecDepth 100000 in
theorem wd_651 : Cond.methodLink "AntTrailsLaw" 66 ⟨"AntTrails", "fault", "(I)I"⟩ ∈ lw_tbl := mt3 (List.mem_of_getElem? (i := 158) rfl)
set_option maxRecDepth 100000 in
theorem wd_652 : Cond.instanceMethod ⟨"AntTrails", "fault", "(I)I"⟩ ∈ lw_tbl := mt3 (List.mem_of_getElem? (i := 159) rfl)
set_option maxRecDepth 100000 in
theorem wd_653 : Cond.selects "AntTrails" ⟨"AntTrails", "fault", "(I)I"⟩ ⟨"AntTrails", "fault", "(I)I"⟩ ∈ lw_tbl := mt3 (List.mem_of_getElem? (i := 160) rfl)
set_option maxRecDepth 100000 in
theorem wd_654 : Cond.code ⟨"AntTrails", "fault", "(I)I"⟩ prog_1_method_22_code 2 (some .int) ∈ lw_tbl := mt3 (List.mem_of_getElem? (i := 161) rfl)
set_option maxRecDepth 100000 in
theorem wd_655 : Cond.methodLink "AntTrails" 238 ⟨"AntTrails$Orders", "carryOut", "(LAntTrails$Ground;LAntTrails$Colony;)I"⟩ ∈ lw_tbl := mt3 (List.mem_of_getElem? (i := 162) rfl)
set_option maxRecDepth 100000 in
theorem wd_656 : Cond.instanceMethod ⟨"AntTrails$Orders", "carryOut", "(LAntTrails$Ground;LAntTrails$Colony;)I"⟩ ∈ lw_tbl := mt3 (List.mem_of_getElem? (i := 163) rfl)
set_option maxRecDepth 100000 in
theorem wd_657 : Cond.selects "AntTrails$Orders" ⟨"AntTrails$Orders", "carryOut", "(LAntTrails$Ground;LAntTrails$Colony;)I"⟩ ⟨"AntTrails$Orders", "carryOut", "(LAntTrails$Ground;LAntTrails$Colony;)I"⟩ ∈ lw_tbl := mt3 (List.mem_of_getElem? (i := 164) rfl)
set_option maxRecDepth 100000 in
theorem wd_658 : Cond.code ⟨"AntTrails$Orders", "carryOut", "(LAntTrails$Ground;LAntTrails$Colony;)I"⟩ prog_5_method_4_code 6 (some .int) ∈ lw_tbl := mt3 (List.mem_of_getElem? (i := 165) rfl)
set_option maxRecDepth 100000 in
theorem wd_659 : Cond.methodLink "AntTrails$Orders" 44 ⟨"AntTrails$Orders", "read", "(I)Z"⟩ ∈ lw_tbl := mt3 (List.mem_of_getElem? (i := 166) rfl)
set_option maxRecDepth 100000 in
theorem wd_661 : Cond.instanceMethod ⟨"AntTrails$Orders", "read", "(I)Z"⟩ ∈ lw_tbl := mt3 (List.mem_of_getElem? (i := 168) rfl)
set_option maxRecDepth 100000 in
theorem wd_662 : Cond.code ⟨"AntTrails$Orders", "read", "(I)Z"⟩ prog_5_method_7_code 4 (some .boolean) ∈ lw_tbl := mt3 (List.mem_of_getElem? (i := 169) rfl)
set_option maxRecDepth 100000 in
theorem wd_663 : Cond.methodLink "AntTrails$Orders" 83 ⟨"AntTrails$Orders", "signHere", "()C"⟩ ∈ lw_tbl := mt3 (List.mem_of_getElem? (i := 170) rfl)
set_option maxRecDepth 100000 in
theorem wd_665 : Cond.instanceMethod ⟨"AntTrails$Orders", "signHere", "()C"⟩ ∈ lw_tbl := mt3 (List.mem_of_getElem? (i := 172) rfl)
set_option maxRecDepth 100000 in
theorem wd_666 : Cond.code ⟨"AntTrails$Orders", "signHere", "()C"⟩ prog_5_method_9_code 1 (some .char) ∈ lw_tbl := mt3 (List.mem_of_getElem? (i := 173) rfl)
set_option maxRecDepth 100000 in
theorem wd_667 : Cond.methodLink "AntTrails$Orders" 87 ⟨"AntTrails$Orders", "numbersOf", "(I)I"⟩ ∈ lw_tbl := mt3 (List.mem_of_getElem? (i := 174) rfl)
set_option maxRecDepth 100000 in
theorem wd_668 : Cond.static ⟨"AntTrails$Orders", "numbersOf", "(I)I"⟩ ∈ lw_tbl := mt3 (List.mem_of_getElem? (i := 175) rfl)
set_option maxRecDepth 100000 in
theorem wd_669 : Cond.code ⟨"AntTrails$Orders", "numbersOf", "(I)I"⟩ prog_5_method_8_code 1 (some .int) ∈ lw_tbl := mt3 (List.mem_of_getElem? (i := 176) rfl)
set_option maxRecDepth 100000 in
theorem wd_670 : Cond.methodLink "AntTrails$Orders" 90 ⟨"AntTrails$Orders", "skip", "(C)Z"⟩ ∈ lw_tbl := mt3 (List.mem_of_getElem? (i := 177) rfl)
set_option maxRecDepth 100000 in
theorem wd_672 : Cond.instanceMethod ⟨"AntTrails$Orders", "skip", "(C)Z"⟩ ∈ lw_tbl := mt3 (List.mem_of_getElem? (i := 179) rfl)
set_option maxRecDepth 100000 in
theorem wd_673 : Cond.code ⟨"AntTrails$Orders", "skip", "(C)Z"⟩ prog_5_method_10_code 2 (some .boolean) ∈ lw_tbl := mt3 (List.mem_of_getElem? (i := 180) rfl)
set_option maxRecDepth 100000 in
theorem wd_674 : Cond.methodLink "AntTrails$Orders" 94 ⟨"AntTrails$Orders", "readNumber", "(I)Z"⟩ ∈ lw_tbl := mt3 (List.mem_of_getElem? (i := 181) rfl)
set_option maxRecDepth 100000 in
theorem wd_676 : Cond.instanceMethod ⟨"AntTrails$Orders", "readNumber", "(I)Z"⟩ ∈ lw_tbl := mt3 (List.mem_of_getElem? (i := 183) rfl)
set_option maxRecDepth 100000 in
theorem wd_677 : Cond.code ⟨"AntTrails$Orders", "readNumber", "(I)Z"⟩ prog_5_method_11_code 4 (some .boolean) ∈ lw_tbl := mt3 (List.mem_of_getElem? (i := 184) rfl)
set_option maxRecDepth 100000 in
theorem wd_678 : Cond.methodLink "AntTrails$Orders" 48 ⟨"AntTrails$Orders", "noteFault", "(III)V"⟩ ∈ lw_tbl := mt3 (List.mem_of_getElem? (i := 185) rfl)
set_option maxRecDepth 100000 in
theorem wd_680 : Cond.instanceMethod ⟨"AntTrails$Orders", "noteFault", "(III)V"⟩ ∈ lw_tbl := mt3 (List.mem_of_getElem? (i := 187) rfl)
set_option maxRecDepth 100000 in
theorem wd_681 : Cond.code ⟨"AntTrails$Orders", "noteFault", "(III)V"⟩ prog_5_method_5_code 4 none ∈ lw_tbl := mt3 (List.mem_of_getElem? (i := 188) rfl)
set_option maxRecDepth 100000 in
theorem wd_682 : Cond.methodLink "AntTrails$Orders" 52 ⟨"AntTrails$Orders", "carryOutOne", "(LAntTrails$Ground;LAntTrails$Colony;)I"⟩ ∈ lw_tbl := mt3 (List.mem_of_getElem? (i := 189) rfl)
set_option maxRecDepth 100000 in
theorem wd_684 : Cond.instanceMethod ⟨"AntTrails$Orders", "carryOutOne", "(LAntTrails$Ground;LAntTrails$Colony;)I"⟩ ∈ lw_tbl := mt3 (List.mem_of_getElem? (i := 191) rfl)
set_option maxRecDepth 100000 in
theorem wd_685 : Cond.code ⟨"AntTrails$Orders", "carryOutOne", "(LAntTrails$Ground;LAntTrails$Colony;)I"⟩ prog_5_method_6_code 3 (some .int) ∈ lw_tbl := mt3 (List.mem_of_getElem? (i := 192) rfl)
set_option maxRecDepth 100000 in
theorem wd_686 : Cond.methodLink "AntTrails$Orders" 59 ⟨"AntTrails$Ground", "addPath", "(III)I"⟩ ∈ lw_tbl := mt3 (List.mem_of_getElem? (i := 193) rfl)
set_option maxRecDepth 100000 in
theorem wd_687 : Cond.methodLink "AntTrails$Orders" 65 ⟨"AntTrails$Ground", "bar", "(IZ)I"⟩ ∈ lw_tbl := mt3 (List.mem_of_getElem? (i := 194) rfl)
set_option maxRecDepth 100000 in
theorem wd_688 : Cond.methodLink "AntTrails$Orders" 69 ⟨"AntTrails$Ground", "moveFood", "(I)I"⟩ ∈ lw_tbl := mt3 (List.mem_of_getElem? (i := 195) rfl)
set_option maxRecDepth 100000 in
theorem wd_689 : Cond.methodLink "AntTrails$Orders" 73 ⟨"AntTrails$Ground", "changeSetting", "(II)I"⟩ ∈ lw_tbl := mt3 (List.mem_of_getElem? (i := 196) rfl)
set_option maxRecDepth 100000 in
theorem wd_690 : Cond.methodLink "AntTrails$Orders" 77 ⟨"AntTrails$Colony", "passLaps", "(LAntTrails$Ground;I)I"⟩ ∈ lw_tbl := mt3 (List.mem_of_getElem? (i := 197) rfl)
set_option maxRecDepth 100000 in
theorem wd_691 : Cond.methodLinkNest "AntTrails$Orders" 56 ⟨"AntTrails", "isError", "(I)Z"⟩ "AntTrails" ∈ lw_tbl := mt3 (List.mem_of_getElem? (i := 198) rfl)
set_option maxRecDepth 100000 in
theorem wd_692 : Cond.methodLink "AntTrailsLaw" 69 ⟨"AntTrails", "play", "()I"⟩ ∈ lw_tbl := mt3 (List.mem_of_getElem? (i := 199) rfl)
set_option maxRecDepth 100000 in
theorem wd_693 : Cond.instanceMethod ⟨"AntTrails", "play", "()I"⟩ ∈ lw_tbl := mt3 (List.mem_of_getElem? (i := 200) rfl)
set_option maxRecDepth 100000 in
theorem wd_694 : Cond.selects "AntTrails" ⟨"AntTrails", "play", "()I"⟩ ⟨"AntTrails", "play", "()I"⟩ ∈ lw_tbl := mt3 (List.mem_of_getElem? (i := 201) rfl)
set_option maxRecDepth 100000 in
theorem wd_695 : Cond.code ⟨"AntTrails", "play", "()I"⟩ prog_1_method_23_code 2 (some .int) ∈ lw_tbl := mt3 (List.mem_of_getElem? (i := 202) rfl)
