section
-- ===== PART A: goes FIRST, ahead of the names: the tables' words, and 'selects' of the private methods out of them =====
/-- a private method of a class that the tables say can be made, by its rows of tables_1 -/
def lw_okq (q : MethodName × Nat) : Prop := (q.1.cls ≠ "java/lang/invoke/MethodHandle" ∧ q.1.cls ≠ "java/lang/invoke/VarHandle") ∧ Cond.instantiable q.1.cls q.2 ∈ tables_1 ∧ Cond.privateMethod q.1 ∈ tables_1 ∧ Cond.instanceMethod q.1 ∈ tables_1
theorem lw_p0 : lw_okq (⟨"AntTrails$History", "dropOldest", "()V"⟩, 2) := ⟨⟨by decide +kernel, by decide +kernel⟩, List.mem_of_getElem? (i := 138) (by decide +kernel), List.mem_of_getElem? (i := 273) (by decide +kernel), List.mem_of_getElem? (i := 274) (by decide +kernel)⟩
theorem lw_p1 : lw_okq (⟨"AntTrails$Colony", "clearLaid", "()V"⟩, 3) := ⟨⟨by decide +kernel, by decide +kernel⟩, List.mem_of_getElem? (i := 155) (by decide +kernel), List.mem_of_getElem? (i := 346) (by decide +kernel), List.mem_of_getElem? (i := 347) (by decide +kernel)⟩
theorem lw_p2 : lw_okq (⟨"AntTrails$Colony", "lookAhead", "(LAntTrails$Ground;)I"⟩, 3) := ⟨⟨by decide +kernel, by decide +kernel⟩, List.mem_of_getElem? (i := 155) (by decide +kernel), List.mem_of_getElem? (i := 363) (by decide +kernel), List.mem_of_getElem? (i := 364) (by decide +kernel)⟩
theorem lw_p3 : lw_okq (⟨"AntTrails$Colony", "pathAhead", "(LAntTrails$Ground;I)I"⟩, 3) := ⟨⟨by decide +kernel, by decide +kernel⟩, List.mem_of_getElem? (i := 155) (by decide +kernel), List.mem_of_getElem? (i := 388) (by decide +kernel), List.mem_of_getElem? (i := 389) (by decide +kernel)⟩
theorem lw_p4 : lw_okq (⟨"AntTrails$Colony", "layTrail", "(I)V"⟩, 3) := ⟨⟨by decide +kernel, by decide +kernel⟩, List.mem_of_getElem? (i := 155) (by decide +kernel), List.mem_of_getElem? (i := 417) (by decide +kernel), List.mem_of_getElem? (i := 418) (by decide +kernel)⟩
theorem lw_p5 : lw_okq (⟨"AntTrails$Survey", "shorten", "(LAntTrails$Ground;I)V"⟩, 2) := ⟨⟨by decide +kernel, by decide +kernel⟩, List.mem_of_getElem? (i := 174) (by decide +kernel), List.mem_of_getElem? (i := 490) (by decide +kernel), List.mem_of_getElem? (i := 491) (by decide +kernel)⟩
theorem lw_p6 : lw_okq (⟨"AntTrails$Survey", "greatestAhead", "(LAntTrails$Ground;)I"⟩, 2) := ⟨⟨by decide +kernel, by decide +kernel⟩, List.mem_of_getElem? (i := 174) (by decide +kernel), List.mem_of_getElem? (i := 537) (by decide +kernel), List.mem_of_getElem? (i := 538) (by decide +kernel)⟩
theorem lw_p7 : lw_okq (⟨"AntTrails$Orders", "read", "(I)Z"⟩, 8) := ⟨⟨by decide +kernel, by decide +kernel⟩, List.mem_of_getElem? (i := 190) (by decide +kernel), List.mem_of_getElem? (i := 611) (by decide +kernel), List.mem_of_getElem? (i := 612) (by decide +kernel)⟩
theorem lw_p8 : lw_okq (⟨"AntTrails$Orders", "signHere", "()C"⟩, 8) := ⟨⟨by decide +kernel, by decide +kernel⟩, List.mem_of_getElem? (i := 190) (by decide +kernel), List.mem_of_getElem? (i := 615) (by decide +kernel), List.mem_of_getElem? (i := 616) (by decide +kernel)⟩
theorem lw_p9 : lw_okq (⟨"AntTrails$Orders", "skip", "(C)Z"⟩, 8) := ⟨⟨by decide +kernel, by decide +kernel⟩, List.mem_of_getElem? (i := 190) (by decide +kernel), List.mem_of_getElem? (i := 622) (by decide +kernel), List.mem_of_getElem? (i := 623) (by decide +kernel)⟩
theorem lw_p10 : lw_okq (⟨"AntTrails$Orders", "readNumber", "(I)Z"⟩, 8) := ⟨⟨by decide +kernel, by decide +kernel⟩, List.mem_of_getElem? (i := 190) (by decide +kernel), List.mem_of_getElem? (i := 626) (by decide +kernel), List.mem_of_getElem? (i := 627) (by decide +kernel)⟩
theorem lw_p11 : lw_okq (⟨"AntTrails$Orders", "noteFault", "(III)V"⟩, 8) := ⟨⟨by decide +kernel, by decide +kernel⟩, List.mem_of_getElem? (i := 190) (by decide +kernel), List.mem_of_getElem? (i := 630) (by decide +kernel), List.mem_of_getElem? (i := 631) (by decide +kernel)⟩
theorem lw_p12 : lw_okq (⟨"AntTrails$Orders", "carryOutOne", "(LAntTrails$Ground;LAntTrails$Colony;)I"⟩, 8) := ⟨⟨by decide +kernel, by decide +kernel⟩, List.mem_of_getElem? (i := 190) (by decide +kernel), List.mem_of_getElem? (i := 634) (by decide +kernel), List.mem_of_getElem? (i := 635) (by decide +kernel)⟩
theorem lw_p13 : lw_okq (⟨"AntTrailsModel", "begins", "()V"⟩, 23) := ⟨⟨by decide +kernel, by decide +kernel⟩, List.mem_of_getElem? (i := 648) (by decide +kernel), List.mem_of_getElem? (i := 729) (by decide +kernel), List.mem_of_getElem? (i := 730) (by decide +kernel)⟩
theorem lw_p14 : lw_okq (⟨"AntTrailsModel", "acted", "(I)I"⟩, 23) := ⟨⟨by decide +kernel, by decide +kernel⟩, List.mem_of_getElem? (i := 648) (by decide +kernel), List.mem_of_getElem? (i := 736) (by decide +kernel), List.mem_of_getElem? (i := 737) (by decide +kernel)⟩
theorem lw_p15 : lw_okq (⟨"AntTrailsModel", "goPath", "(III)I"⟩, 23) := ⟨⟨by decide +kernel, by decide +kernel⟩, List.mem_of_getElem? (i := 648) (by decide +kernel), List.mem_of_getElem? (i := 752) (by decide +kernel), List.mem_of_getElem? (i := 753) (by decide +kernel)⟩
def lw_privs_1 : List (MethodName × Nat) := [(⟨"AntTrails$History", "dropOldest", "()V"⟩, 2), (⟨"AntTrails$Colony", "clearLaid", "()V"⟩, 3), (⟨"AntTrails$Colony", "lookAhead", "(LAntTrails$Ground;)I"⟩, 3), (⟨"AntTrails$Colony", "pathAhead", "(LAntTrails$Ground;I)I"⟩, 3), (⟨"AntTrails$Colony", "layTrail", "(I)V"⟩, 3), (⟨"AntTrails$Survey", "shorten", "(LAntTrails$Ground;I)V"⟩, 2), (⟨"AntTrails$Survey", "greatestAhead", "(LAntTrails$Ground;)I"⟩, 2), (⟨"AntTrails$Orders", "read", "(I)Z"⟩, 8), (⟨"AntTrails$Orders", "signHere", "()C"⟩, 8), (⟨"AntTrails$Orders", "skip", "(C)Z"⟩, 8), (⟨"AntTrails$Orders", "readNumber", "(I)Z"⟩, 8), (⟨"AntTrails$Orders", "noteFault", "(III)V"⟩, 8), (⟨"AntTrails$Orders", "carryOutOne", "(LAntTrails$Ground;LAntTrails$Colony;)I"⟩, 8), (⟨"AntTrailsModel", "begins", "()V"⟩, 23), (⟨"AntTrailsModel", "acted", "(I)I"⟩, 23), (⟨"AntTrailsModel", "goPath", "(III)I"⟩, 23)]
theorem lw_r1 : ∀ q ∈ lw_privs_1, lw_okq q := List.forall_mem_cons.mpr ⟨lw_p0, List.forall_mem_cons.mpr ⟨lw_p1, List.forall_mem_cons.mpr ⟨lw_p2, List.forall_mem_cons.mpr ⟨lw_p3, List.forall_mem_cons.mpr ⟨lw_p4, List.forall_mem_cons.mpr ⟨lw_p5, List.forall_mem_cons.mpr ⟨lw_p6, List.forall_mem_cons.mpr ⟨lw_p7, List.forall_mem_cons.mpr ⟨lw_p8, List.forall_mem_cons.mpr ⟨lw_p9, List.forall_mem_cons.mpr ⟨lw_p10, List.forall_mem_cons.mpr ⟨lw_p11, List.forall_mem_cons.mpr ⟨lw_p12, List.forall_mem_cons.mpr ⟨lw_p13, List.forall_mem_cons.mpr ⟨lw_p14, List.forall_mem_cons.mpr ⟨lw_p15, fun _ h => absurd h List.not_mem_nil⟩⟩⟩⟩⟩⟩⟩⟩⟩⟩⟩⟩⟩⟩⟩⟩
theorem lw_p16 : lw_okq (⟨"AntTrailsModel", "isPlace", "(I)Z"⟩, 23) := ⟨⟨by decide +kernel, by decide +kernel⟩, List.mem_of_getElem? (i := 648) (by decide +kernel), List.mem_of_getElem? (i := 756) (by decide +kernel), List.mem_of_getElem? (i := 757) (by decide +kernel)⟩
theorem lw_p17 : lw_okq (⟨"AntTrailsModel", "lays", "(III)V"⟩, 23) := ⟨⟨by decide +kernel, by decide +kernel⟩, List.mem_of_getElem? (i := 648) (by decide +kernel), List.mem_of_getElem? (i := 760) (by decide +kernel), List.mem_of_getElem? (i := 761) (by decide +kernel)⟩
theorem lw_p18 : lw_okq (⟨"AntTrailsModel", "goClose", "(II)I"⟩, 23) := ⟨⟨by decide +kernel, by decide +kernel⟩, List.mem_of_getElem? (i := 648) (by decide +kernel), List.mem_of_getElem? (i := 768) (by decide +kernel), List.mem_of_getElem? (i := 769) (by decide +kernel)⟩
theorem lw_p19 : lw_okq (⟨"AntTrailsModel", "isPath", "(I)Z"⟩, 23) := ⟨⟨by decide +kernel, by decide +kernel⟩, List.mem_of_getElem? (i := 648) (by decide +kernel), List.mem_of_getElem? (i := 772) (by decide +kernel), List.mem_of_getElem? (i := 773) (by decide +kernel)⟩
theorem lw_p20 : lw_okq (⟨"AntTrailsModel", "of", "(II)I"⟩, 23) := ⟨⟨by decide +kernel, by decide +kernel⟩, List.mem_of_getElem? (i := 648) (by decide +kernel), List.mem_of_getElem? (i := 776) (by decide +kernel), List.mem_of_getElem? (i := 777) (by decide +kernel)⟩
theorem lw_p21 : lw_okq (⟨"AntTrailsModel", "openOnes", "()I"⟩, 23) := ⟨⟨by decide +kernel, by decide +kernel⟩, List.mem_of_getElem? (i := 648) (by decide +kernel), List.mem_of_getElem? (i := 781) (by decide +kernel), List.mem_of_getElem? (i := 782) (by decide +kernel)⟩
theorem lw_p22 : lw_okq (⟨"AntTrailsModel", "isOpen", "(I)Z"⟩, 23) := ⟨⟨by decide +kernel, by decide +kernel⟩, List.mem_of_getElem? (i := 648) (by decide +kernel), List.mem_of_getElem? (i := 785) (by decide +kernel), List.mem_of_getElem? (i := 786) (by decide +kernel)⟩
theorem lw_p23 : lw_okq (⟨"AntTrailsModel", "goFood", "(I)I"⟩, 23) := ⟨⟨by decide +kernel, by decide +kernel⟩, List.mem_of_getElem? (i := 648) (by decide +kernel), List.mem_of_getElem? (i := 793) (by decide +kernel), List.mem_of_getElem? (i := 794) (by decide +kernel)⟩
theorem lw_p24 : lw_okq (⟨"AntTrailsModel", "goLap", "(I)I"⟩, 23) := ⟨⟨by decide +kernel, by decide +kernel⟩, List.mem_of_getElem? (i := 648) (by decide +kernel), List.mem_of_getElem? (i := 801) (by decide +kernel), List.mem_of_getElem? (i := 802) (by decide +kernel)⟩
theorem lw_p25 : lw_okq (⟨"AntTrailsModel", "laps", "(I)V"⟩, 23) := ⟨⟨by decide +kernel, by decide +kernel⟩, List.mem_of_getElem? (i := 648) (by decide +kernel), List.mem_of_getElem? (i := 805) (by decide +kernel), List.mem_of_getElem? (i := 806) (by decide +kernel)⟩
theorem lw_p26 : lw_okq (⟨"AntTrailsModel", "oneLap", "()V"⟩, 23) := ⟨⟨by decide +kernel, by decide +kernel⟩, List.mem_of_getElem? (i := 648) (by decide +kernel), List.mem_of_getElem? (i := 809) (by decide +kernel), List.mem_of_getElem? (i := 810) (by decide +kernel)⟩
theorem lw_p27 : lw_okq (⟨"AntTrailsModel", "antGoes", "()V"⟩, 23) := ⟨⟨by decide +kernel, by decide +kernel⟩, List.mem_of_getElem? (i := 648) (by decide +kernel), List.mem_of_getElem? (i := 813) (by decide +kernel), List.mem_of_getElem? (i := 814) (by decide +kernel)⟩
theorem lw_p28 : lw_okq (⟨"AntTrailsModel", "sets", "()V"⟩, 23) := ⟨⟨by decide +kernel, by decide +kernel⟩, List.mem_of_getElem? (i := 648) (by decide +kernel), List.mem_of_getElem? (i := 817) (by decide +kernel), List.mem_of_getElem? (i := 818) (by decide +kernel)⟩
theorem lw_p29 : lw_okq (⟨"AntTrailsModel", "draws", "()I"⟩, 23) := ⟨⟨by decide +kernel, by decide +kernel⟩, List.mem_of_getElem? (i := 648) (by decide +kernel), List.mem_of_getElem? (i := 821) (by decide +kernel), List.mem_of_getElem? (i := 822) (by decide +kernel)⟩
theorem lw_p30 : lw_okq (⟨"AntTrailsModel", "canGo", "(I)Z"⟩, 23) := ⟨⟨by decide +kernel, by decide +kernel⟩, List.mem_of_getElem? (i := 648) (by decide +kernel), List.mem_of_getElem? (i := 825) (by decide +kernel), List.mem_of_getElem? (i := 826) (by decide +kernel)⟩
theorem lw_p31 : lw_okq (⟨"AntTrailsModel", "end", "(II)I"⟩, 23) := ⟨⟨by decide +kernel, by decide +kernel⟩, List.mem_of_getElem? (i := 648) (by decide +kernel), List.mem_of_getElem? (i := 829) (by decide +kernel), List.mem_of_getElem? (i := 830) (by decide +kernel)⟩
def lw_privs_2 : List (MethodName × Nat) := [(⟨"AntTrailsModel", "isPlace", "(I)Z"⟩, 23), (⟨"AntTrailsModel", "lays", "(III)V"⟩, 23), (⟨"AntTrailsModel", "goClose", "(II)I"⟩, 23), (⟨"AntTrailsModel", "isPath", "(I)Z"⟩, 23), (⟨"AntTrailsModel", "of", "(II)I"⟩, 23), (⟨"AntTrailsModel", "openOnes", "()I"⟩, 23), (⟨"AntTrailsModel", "isOpen", "(I)Z"⟩, 23), (⟨"AntTrailsModel", "goFood", "(I)I"⟩, 23), (⟨"AntTrailsModel", "goLap", "(I)I"⟩, 23), (⟨"AntTrailsModel", "laps", "(I)V"⟩, 23), (⟨"AntTrailsModel", "oneLap", "()V"⟩, 23), (⟨"AntTrailsModel", "antGoes", "()V"⟩, 23), (⟨"AntTrailsModel", "sets", "()V"⟩, 23), (⟨"AntTrailsModel", "draws", "()I"⟩, 23), (⟨"AntTrailsModel", "canGo", "(I)Z"⟩, 23), (⟨"AntTrailsModel", "end", "(II)I"⟩, 23)]
theorem lw_r2 : ∀ q ∈ lw_privs_2, lw_okq q := List.forall_mem_cons.mpr ⟨lw_p16, List.forall_mem_cons.mpr ⟨lw_p17, List.forall_mem_cons.mpr ⟨lw_p18, List.forall_mem_cons.mpr ⟨lw_p19, List.forall_mem_cons.mpr ⟨lw_p20, List.forall_mem_cons.mpr ⟨lw_p21, List.forall_mem_cons.mpr ⟨lw_p22, List.forall_mem_cons.mpr ⟨lw_p23, List.forall_mem_cons.mpr ⟨lw_p24, List.forall_mem_cons.mpr ⟨lw_p25, List.forall_mem_cons.mpr ⟨lw_p26, List.forall_mem_cons.mpr ⟨lw_p27, List.forall_mem_cons.mpr ⟨lw_p28, List.forall_mem_cons.mpr ⟨lw_p29, List.forall_mem_cons.mpr ⟨lw_p30, List.forall_mem_cons.mpr ⟨lw_p31, fun _ h => absurd h List.not_mem_nil⟩⟩⟩⟩⟩⟩⟩⟩⟩⟩⟩⟩⟩⟩⟩⟩
theorem lw_p32 : lw_okq (⟨"AntTrailsModel", "weight", "(I)I"⟩, 23) := ⟨⟨by decide +kernel, by decide +kernel⟩, List.mem_of_getElem? (i := 648) (by decide +kernel), List.mem_of_getElem? (i := 833) (by decide +kernel), List.mem_of_getElem? (i := 834) (by decide +kernel)⟩
theorem lw_p33 : lw_okq (⟨"AntTrailsModel", "goesAlong", "(I)V"⟩, 23) := ⟨⟨by decide +kernel, by decide +kernel⟩, List.mem_of_getElem? (i := 648) (by decide +kernel), List.mem_of_getElem? (i := 839) (by decide +kernel), List.mem_of_getElem? (i := 840) (by decide +kernel)⟩
theorem lw_p34 : lw_okq (⟨"AntTrailsModel", "isBest", "()V"⟩, 23) := ⟨⟨by decide +kernel, by decide +kernel⟩, List.mem_of_getElem? (i := 648) (by decide +kernel), List.mem_of_getElem? (i := 843) (by decide +kernel), List.mem_of_getElem? (i := 844) (by decide +kernel)⟩
theorem lw_p35 : lw_okq (⟨"AntTrailsModel", "lays2", "(II)V"⟩, 23) := ⟨⟨by decide +kernel, by decide +kernel⟩, List.mem_of_getElem? (i := 648) (by decide +kernel), List.mem_of_getElem? (i := 847) (by decide +kernel), List.mem_of_getElem? (i := 848) (by decide +kernel)⟩
theorem lw_p36 : lw_okq (⟨"AntTrailsModel", "trails", "()I"⟩, 23) := ⟨⟨by decide +kernel, by decide +kernel⟩, List.mem_of_getElem? (i := 648) (by decide +kernel), List.mem_of_getElem? (i := 855) (by decide +kernel), List.mem_of_getElem? (i := 856) (by decide +kernel)⟩
theorem lw_p37 : lw_okq (⟨"AntTrailsModel", "goSet", "(II)I"⟩, 23) := ⟨⟨by decide +kernel, by decide +kernel⟩, List.mem_of_getElem? (i := 648) (by decide +kernel), List.mem_of_getElem? (i := 863) (by decide +kernel), List.mem_of_getElem? (i := 864) (by decide +kernel)⟩
theorem lw_p38 : lw_okq (⟨"AntTrailsModel", "inBest", "(I)I"⟩, 23) := ⟨⟨by decide +kernel, by decide +kernel⟩, List.mem_of_getElem? (i := 648) (by decide +kernel), List.mem_of_getElem? (i := 874) (by decide +kernel), List.mem_of_getElem? (i := 875) (by decide +kernel)⟩
theorem lw_p39 : lw_okq (⟨"AntTrailsModel", "openAt", "(I)I"⟩, 23) := ⟨⟨by decide +kernel, by decide +kernel⟩, List.mem_of_getElem? (i := 648) (by decide +kernel), List.mem_of_getElem? (i := 882) (by decide +kernel), List.mem_of_getElem? (i := 883) (by decide +kernel)⟩
theorem lw_p40 : lw_okq (⟨"AntTrailsModel", "farFrom", "(I)I"⟩, 23) := ⟨⟨by decide +kernel, by decide +kernel⟩, List.mem_of_getElem? (i := 648) (by decide +kernel), List.mem_of_getElem? (i := 886) (by decide +kernel), List.mem_of_getElem? (i := 887) (by decide +kernel)⟩
theorem lw_p41 : lw_okq (⟨"AntTrailsModel", "onBest", "(I)I"⟩, 23) := ⟨⟨by decide +kernel, by decide +kernel⟩, List.mem_of_getElem? (i := 648) (by decide +kernel), List.mem_of_getElem? (i := 890) (by decide +kernel), List.mem_of_getElem? (i := 891) (by decide +kernel)⟩
theorem lw_p42 : lw_okq (⟨"AntTrailsModel", "greatestOn", "()I"⟩, 23) := ⟨⟨by decide +kernel, by decide +kernel⟩, List.mem_of_getElem? (i := 648) (by decide +kernel), List.mem_of_getElem? (i := 920) (by decide +kernel), List.mem_of_getElem? (i := 921) (by decide +kernel)⟩
theorem lw_p43 : lw_okq (⟨"AntTrailsModel", "isGreater", "(II)Z"⟩, 23) := ⟨⟨by decide +kernel, by decide +kernel⟩, List.mem_of_getElem? (i := 648) (by decide +kernel), List.mem_of_getElem? (i := 924) (by decide +kernel), List.mem_of_getElem? (i := 925) (by decide +kernel)⟩
theorem lw_p44 : lw_okq (⟨"AntTrailsModel", "greatest", "()I"⟩, 23) := ⟨⟨by decide +kernel, by decide +kernel⟩, List.mem_of_getElem? (i := 648) (by decide +kernel), List.mem_of_getElem? (i := 944) (by decide +kernel), List.mem_of_getElem? (i := 945) (by decide +kernel)⟩
theorem lw_p45 : lw_okq (⟨"AntTrailsModel", "doesAll", "()Z"⟩, 23) := ⟨⟨by decide +kernel, by decide +kernel⟩, List.mem_of_getElem? (i := 648) (by decide +kernel), List.mem_of_getElem? (i := 964) (by decide +kernel), List.mem_of_getElem? (i := 965) (by decide +kernel)⟩
theorem lw_p46 : lw_okq (⟨"AntTrailsModel", "sign", "()I"⟩, 23) := ⟨⟨by decide +kernel, by decide +kernel⟩, List.mem_of_getElem? (i := 648) (by decide +kernel), List.mem_of_getElem? (i := 968) (by decide +kernel), List.mem_of_getElem? (i := 969) (by decide +kernel)⟩
theorem lw_p47 : lw_okq (⟨"AntTrailsModel", "takesOrder", "(I)V"⟩, 23) := ⟨⟨by decide +kernel, by decide +kernel⟩, List.mem_of_getElem? (i := 648) (by decide +kernel), List.mem_of_getElem? (i := 972) (by decide +kernel), List.mem_of_getElem? (i := 973) (by decide +kernel)⟩
def lw_privs_3 : List (MethodName × Nat) := [(⟨"AntTrailsModel", "weight", "(I)I"⟩, 23), (⟨"AntTrailsModel", "goesAlong", "(I)V"⟩, 23), (⟨"AntTrailsModel", "isBest", "()V"⟩, 23), (⟨"AntTrailsModel", "lays2", "(II)V"⟩, 23), (⟨"AntTrailsModel", "trails", "()I"⟩, 23), (⟨"AntTrailsModel", "goSet", "(II)I"⟩, 23), (⟨"AntTrailsModel", "inBest", "(I)I"⟩, 23), (⟨"AntTrailsModel", "openAt", "(I)I"⟩, 23), (⟨"AntTrailsModel", "farFrom", "(I)I"⟩, 23), (⟨"AntTrailsModel", "onBest", "(I)I"⟩, 23), (⟨"AntTrailsModel", "greatestOn", "()I"⟩, 23), (⟨"AntTrailsModel", "isGreater", "(II)Z"⟩, 23), (⟨"AntTrailsModel", "greatest", "()I"⟩, 23), (⟨"AntTrailsModel", "doesAll", "()Z"⟩, 23), (⟨"AntTrailsModel", "sign", "()I"⟩, 23), (⟨"AntTrailsModel", "takesOrder", "(I)V"⟩, 23)]
theorem lw_r3 : ∀ q ∈ lw_privs_3, lw_okq q := List.forall_mem_cons.mpr ⟨lw_p32, List.forall_mem_cons.mpr ⟨lw_p33, List.forall_mem_cons.mpr ⟨lw_p34, List.forall_mem_cons.mpr ⟨lw_p35, List.forall_mem_cons.mpr ⟨lw_p36, List.forall_mem_cons.mpr ⟨lw_p37, List.forall_mem_cons.mpr ⟨lw_p38, List.forall_mem_cons.mpr ⟨lw_p39, List.forall_mem_cons.mpr ⟨lw_p40, List.forall_mem_cons.mpr ⟨lw_p41, List.forall_mem_cons.mpr ⟨lw_p42, List.forall_mem_cons.mpr ⟨lw_p43, List.forall_mem_cons.mpr ⟨lw_p44, List.forall_mem_cons.mpr ⟨lw_p45, List.forall_mem_cons.mpr ⟨lw_p46, List.forall_mem_cons.mpr ⟨lw_p47, fun _ h => absurd h List.not_mem_nil⟩⟩⟩⟩⟩⟩⟩⟩⟩⟩⟩⟩⟩⟩⟩⟩
theorem lw_p48 : lw_okq (⟨"AntTrailsModel", "takes", "(Z)V"⟩, 23) := ⟨⟨by decide +kernel, by decide +kernel⟩, List.mem_of_getElem? (i := 648) (by decide +kernel), List.mem_of_getElem? (i := 979) (by decide +kernel), List.mem_of_getElem? (i := 980) (by decide +kernel)⟩
theorem lw_p49 : lw_okq (⟨"AntTrailsModel", "number", "()I"⟩, 23) := ⟨⟨by decide +kernel, by decide +kernel⟩, List.mem_of_getElem? (i := 648) (by decide +kernel), List.mem_of_getElem? (i := 983) (by decide +kernel), List.mem_of_getElem? (i := 984) (by decide +kernel)⟩
theorem lw_p50 : lw_okq (⟨"AntTrailsModel", "called", "(I)I"⟩, 23) := ⟨⟨by decide +kernel, by decide +kernel⟩, List.mem_of_getElem? (i := 648) (by decide +kernel), List.mem_of_getElem? (i := 987) (by decide +kernel), List.mem_of_getElem? (i := 988) (by decide +kernel)⟩
def lw_privs_4 : List (MethodName × Nat) := [(⟨"AntTrailsModel", "takes", "(Z)V"⟩, 23), (⟨"AntTrailsModel", "number", "()I"⟩, 23), (⟨"AntTrailsModel", "called", "(I)I"⟩, 23)]
theorem lw_r4 : ∀ q ∈ lw_privs_4, lw_okq q := List.forall_mem_cons.mpr ⟨lw_p48, List.forall_mem_cons.mpr ⟨lw_p49, List.forall_mem_cons.mpr ⟨lw_p50, fun _ h => absurd h List.not_mem_nil⟩⟩⟩
def lw_privs : List (MethodName × Nat) := lw_privs_1 ++ (lw_privs_2 ++ (lw_privs_3 ++ (lw_privs_4)))
def lw_tbl : List Cond := k2_sels lw_privs ++ tables_1
theorem lw_privs_ok : ∀ q ∈ lw_privs, lw_okq q := by
  show ∀ q ∈ lw_privs_1 ++ (lw_privs_2 ++ (lw_privs_3 ++ (lw_privs_4))), lw_okq q
  exact List.forall_mem_append.mpr ⟨lw_r1, List.forall_mem_append.mpr ⟨lw_r2, List.forall_mem_append.mpr ⟨lw_r3, lw_r4⟩⟩⟩
/-- the streams that the claim lets the run draw from -/
abbrev lw_cs : List Choice := [Jvm.Choice.named "NaN.bits"]
theorem lw_bits : nanBits ∈ lw_cs := by first | decide | exact List.mem_cons_self | simp [lw_cs, nanBits]
def RX0 : String := "AntTrails$Colony"
def TX0 : u_T := fun k => match k with
  | 0 => ("AntTrails$Colony", "way", "LAntTrails$Way;", true)
  | 1 => ("AntTrails$Colony", "laid", "[I", true)
  | _ => ("AntTrails$Colony", "weights", "[I", true)
def tyX0 : Nat → FieldType := fun k => match k with
  | 0 => .object "AntTrails$Way"
  | 1 => .array .int
  | _ => .array .int
abbrev wsX00 : List Cond := u_ws RX0 TX0 3
theorem nmX0 : ∀ a, a < 3 → ∀ b, b < 3 → a ≠ b → (TX0 a).2.1 ≠ (TX0 b).2.1 := by decide +kernel
theorem tyX0_ok : ∀ k, k < 3 → parseFieldDescriptor (TX0 k).2.2.1 = some (tyX0 k) := by decide +kernel
def RX1 : String := "AntTrails$Ground"
def TX1 : u_T := fun k => match k with
  | 0 => ("AntTrails$Ground", "placeCount", "I", false)
  | 1 => ("AntTrails$Ground", "came", "[I", true)
  | 2 => ("AntTrails$Ground", "stuckAt", "[I", true)
  | 3 => ("AntTrails$Ground", "pathCount", "I", false)
  | 4 => ("AntTrails$Ground", "oneEnd", "[I", true)
  | 5 => ("AntTrails$Ground", "otherEnd", "[I", true)
  | 6 => ("AntTrails$Ground", "lengths", "[I", true)
  | 7 => ("AntTrails$Ground", "trails", "[I", true)
  | 8 => ("AntTrails$Ground", "walked", "[I", true)
  | 9 => ("AntTrails$Ground", "closed", "[I", true)
  | 10 => ("AntTrails$Ground", "food", "I", false)
  | 11 => ("AntTrails$Ground", "x", "I", false)
  | 12 => ("AntTrails$Ground", "settings", "[I", true)
  | 13 => ("AntTrails$Ground", "laps", "I", false)
  | 14 => ("AntTrails$Ground", "ended", "[I", true)
  | 15 => ("AntTrails$Ground", "best", "LAntTrails$Way;", true)
  | _ => ("AntTrails$Ground", "bestLap", "I", false)
def tyX1 : Nat → FieldType := fun k => match k with
  | 0 => .int
  | 1 => .array .int
  | 2 => .array .int
  | 3 => .int
  | 4 => .array .int
  | 5 => .array .int
  | 6 => .array .int
  | 7 => .array .int
  | 8 => .array .int
  | 9 => .array .int
  | 10 => .int
  | 11 => .int
  | 12 => .array .int
  | 13 => .int
  | 14 => .array .int
  | 15 => .object "AntTrails$Way"
  | _ => .int
abbrev wsX10 : List Cond := u_ws RX1 TX1 17
theorem nmX1 : ∀ a, a < 17 → ∀ b, b < 17 → a ≠ b → (TX1 a).2.1 ≠ (TX1 b).2.1 := by decide +kernel
theorem tyX1_ok : ∀ k, k < 17 → parseFieldDescriptor (TX1 k).2.2.1 = some (tyX1 k) := by decide +kernel
def RX2 : String := "AntTrails$History"
def TX2 : u_T := fun k => match k with
  | 0 => ("AntTrails$History", "states", "[LAntTrails$Ground;", true)
  | _ => ("AntTrails$History", "kept", "I", false)
def tyX2 : Nat → FieldType := fun k => match k with
  | 0 => .array (.object "AntTrails$Ground")
  | _ => .int
abbrev wsX20 : List Cond := u_ws RX2 TX2 2
theorem nmX2 : ∀ a, a < 2 → ∀ b, b < 2 → a ≠ b → (TX2 a).2.1 ≠ (TX2 b).2.1 := by decide +kernel
theorem tyX2_ok : ∀ k, k < 2 → parseFieldDescriptor (TX2 k).2.2.1 = some (tyX2 k) := by decide +kernel
def RX3 : String := "AntTrails$Orders"
def TX3 : u_T := fun k => match k with
  | 0 => ("AntTrails$Orders", "signs", "[C", true)
  | 1 => ("AntTrails$Orders", "length", "I", false)
  | 2 => ("AntTrails$Orders", "kind", "I", false)
  | 3 => ("AntTrails$Orders", "numbers", "[I", true)
  | 4 => ("AntTrails$Orders", "at", "I", false)
  | 5 => ("AntTrails$Orders", "faultReason", "I", false)
  | 6 => ("AntTrails$Orders", "faultPosition", "I", false)
  | _ => ("AntTrails$Orders", "faultCause", "I", false)
def tyX3 : Nat → FieldType := fun k => match k with
  | 0 => .array .char
  | 1 => .int
  | 2 => .int
  | 3 => .array .int
  | 4 => .int
  | 5 => .int
  | 6 => .int
  | _ => .int
abbrev wsX30 : List Cond := u_ws RX3 TX3 8
theorem nmX3 : ∀ a, a < 8 → ∀ b, b < 8 → a ≠ b → (TX3 a).2.1 ≠ (TX3 b).2.1 := by decide +kernel
theorem tyX3_ok : ∀ k, k < 8 → parseFieldDescriptor (TX3 k).2.2.1 = some (tyX3 k) := by decide +kernel
def RX4 : String := "AntTrails$Survey"
def TX4 : u_T := fun k => match k with
  | 0 => ("AntTrails$Survey", "far", "[I", true)
  | _ => ("AntTrails$Survey", "way", "LAntTrails$Way;", true)
def tyX4 : Nat → FieldType := fun k => match k with
  | 0 => .array .int
  | _ => .object "AntTrails$Way"
abbrev wsX40 : List Cond := u_ws RX4 TX4 2
theorem nmX4 : ∀ a, a < 2 → ∀ b, b < 2 → a ≠ b → (TX4 a).2.1 ≠ (TX4 b).2.1 := by decide +kernel
theorem tyX4_ok : ∀ k, k < 2 → parseFieldDescriptor (TX4 k).2.2.1 = some (tyX4 k) := by decide +kernel
def RX5 : String := "AntTrails$Way"
def TX5 : u_T := fun k => match k with
  | 0 => ("AntTrails$Way", "places", "[I", true)
  | 1 => ("AntTrails$Way", "steps", "I", false)
  | 2 => ("AntTrails$Way", "length", "I", false)
  | 3 => ("AntTrails$Way", "pathSet", "I", false)
  | _ => ("AntTrails$Way", "placeSet", "I", false)
def tyX5 : Nat → FieldType := fun k => match k with
  | 0 => .array .int
  | 1 => .int
  | 2 => .int
  | 3 => .int
  | _ => .int
abbrev wsX50 : List Cond := u_ws RX5 TX5 5
theorem nmX5 : ∀ a, a < 5 → ∀ b, b < 5 → a ≠ b → (TX5 a).2.1 ≠ (TX5 b).2.1 := by decide +kernel
theorem tyX5_ok : ∀ k, k < 5 → parseFieldDescriptor (TX5 k).2.2.1 = some (tyX5 k) := by decide +kernel
def RX6 : String := "AntTrails"
def TX6 : u_T := fun k => match k with
  | 0 => ("AntTrails", "now", "LAntTrails$Ground;", true)
  | 1 => ("AntTrails", "tried", "LAntTrails$Ground;", true)
  | 2 => ("AntTrails", "history", "LAntTrails$History;", true)
  | 3 => ("AntTrails", "colony", "LAntTrails$Colony;", true)
  | 4 => ("AntTrails", "survey", "LAntTrails$Survey;", true)
  | _ => ("AntTrails", "orders", "LAntTrails$Orders;", true)
def tyX6 : Nat → FieldType := fun k => match k with
  | 0 => .object "AntTrails$Ground"
  | 1 => .object "AntTrails$Ground"
  | 2 => .object "AntTrails$History"
  | 3 => .object "AntTrails$Colony"
  | 4 => .object "AntTrails$Survey"
  | _ => .object "AntTrails$Orders"
abbrev wsX60 : List Cond := u_ws RX6 TX6 6
theorem nmX6 : ∀ a, a < 6 → ∀ b, b < 6 → a ≠ b → (TX6 a).2.1 ≠ (TX6 b).2.1 := by decide +kernel
theorem tyX6_ok : ∀ k, k < 6 → parseFieldDescriptor (TX6 k).2.2.1 = some (tyX6 k) := by decide +kernel
def RX7 : String := "AntTrailsModel"
def TX7 : u_T := fun k => match k with
  | 0 => ("AntTrailsModel", "s", "[I", true)
  | 1 => ("AntTrailsModel", "begun", "[I", true)
  | 2 => ("AntTrailsModel", "aside", "[I", true)
  | 3 => ("AntTrailsModel", "past", "[I", true)
  | 4 => ("AntTrailsModel", "states", "I", false)
  | 5 => ("AntTrailsModel", "text", "[I", true)
  | 6 => ("AntTrailsModel", "length", "I", false)
  | 7 => ("AntTrailsModel", "away", "[I", true)
  | 8 => ("AntTrailsModel", "here", "I", false)
  | 9 => ("AntTrailsModel", "wayLong", "I", false)
  | 10 => ("AntTrailsModel", "wayMany", "I", false)
  | 11 => ("AntTrailsModel", "waySet", "I", false)
  | 12 => ("AntTrailsModel", "been", "I", false)
  | 13 => ("AntTrailsModel", "why", "I", false)
  | 14 => ("AntTrailsModel", "way", "[I", true)
  | 15 => ("AntTrailsModel", "foundSet", "[I", true)
  | 16 => ("AntTrailsModel", "foundLong", "[I", true)
  | 17 => ("AntTrailsModel", "spot", "I", false)
  | 18 => ("AntTrailsModel", "from", "I", false)
  | 19 => ("AntTrailsModel", "done", "I", false)
  | 20 => ("AntTrailsModel", "told", "I", false)
  | 21 => ("AntTrailsModel", "isForm", "Z", false)
  | _ => ("AntTrailsModel", "numbers", "[I", true)
def tyX7 : Nat → FieldType := fun k => match k with
  | 0 => .array .int
  | 1 => .array .int
  | 2 => .array .int
  | 3 => .array .int
  | 4 => .int
  | 5 => .array .int
  | 6 => .int
  | 7 => .array .int
  | 8 => .int
  | 9 => .int
  | 10 => .int
  | 11 => .int
  | 12 => .int
  | 13 => .int
  | 14 => .array .int
  | 15 => .array .int
  | 16 => .array .int
  | 17 => .int
  | 18 => .int
  | 19 => .int
  | 20 => .int
  | 21 => .boolean
  | _ => .array .int
abbrev wsX70 : List Cond := u_ws RX7 TX7 23
theorem nmX7 : ∀ a, a < 23 → ∀ b, b < 23 → a ≠ b → (TX7 a).2.1 ≠ (TX7 b).2.1 := by decide +kernel
theorem tyX7_ok : ∀ k, k < 23 → parseFieldDescriptor (TX7 k).2.2.1 = some (tyX7 k) := by decide +kernel
abbrev vwCl : List vw_C := [(RX0, TX0, 3), (RX1, TX1, 17), (RX2, TX2, 2), (RX3, TX3, 8), (RX4, TX4, 2), (RX5, TX5, 5), (RX6, TX6, 6), (RX7, TX7, 23)]
def mY : Nat → MethodName := fun m => match m with
  | 0 => ⟨"AntTrailsLaw", "law", "([I)Z"⟩
  | 1 => ⟨"AntTrails", "<init>", "()V"⟩
  | 2 => ⟨"AntTrails", "place", "()I"⟩
  | 3 => ⟨"AntTrails", "path", "(III)I"⟩
  | 4 => ⟨"AntTrails", "close", "(IZ)I"⟩
  | 5 => ⟨"AntTrails", "food", "(I)I"⟩
  | 6 => ⟨"AntTrails", "lap", "(I)I"⟩
  | 7 => ⟨"AntTrails", "forget", "()I"⟩
  | 8 => ⟨"AntTrails", "set", "(II)I"⟩
  | 9 => ⟨"AntTrails", "pathOf", "(II)I"⟩
  | 10 => ⟨"AntTrails", "placeOf", "(II)I"⟩
  | 11 => ⟨"AntTrails", "best", "(I)I"⟩
  | 12 => ⟨"AntTrails", "bestAt", "(I)I"⟩
  | 13 => ⟨"AntTrails", "chance", "(II)I"⟩
  | 14 => ⟨"AntTrails", "greedy", "(I)I"⟩
  | 15 => ⟨"AntTrails", "over", "()I"⟩
  | 16 => ⟨"AntTrails", "ant", "(I)I"⟩
  | 17 => ⟨"AntTrails", "would", "(II)I"⟩
  | 18 => ⟨"AntTrails", "count", "(I)I"⟩
  | 19 => ⟨"AntTrails", "undo", "()I"⟩
  | 20 => ⟨"AntTrails", "type", "(I)I"⟩
  | 21 => ⟨"AntTrails", "clearText", "()I"⟩
  | 22 => ⟨"AntTrails", "fault", "(I)I"⟩
  | 23 => ⟨"AntTrails", "play", "()I"⟩
  | 24 => ⟨"AntTrails", "isWithin", "(III)Z"⟩
  | 25 => ⟨"AntTrails", "isError", "(I)Z"⟩
  | 26 => ⟨"AntTrails", "hasBit", "(II)Z"⟩
  | 27 => ⟨"AntTrails", "copyRow", "([I[I)V"⟩
  | 28 => ⟨"AntTrails", "bitsOf", "(F)I"⟩
  | 29 => ⟨"AntTrails$Colony", "<init>", "()V"⟩
  | 30 => ⟨"AntTrails$Colony", "passLaps", "(LAntTrails$Ground;I)I"⟩
  | 31 => ⟨"AntTrails$Colony", "clearLaid", "()V"⟩
  | 32 => ⟨"AntTrails$Colony", "layTrail", "(I)V"⟩
  | 33 => ⟨"AntTrails$Colony", "walk", "(LAntTrails$Ground;)I"⟩
  | 34 => ⟨"AntTrails$Colony", "lookAhead", "(LAntTrails$Ground;)I"⟩
  | 35 => ⟨"AntTrails$Colony", "pathAhead", "(LAntTrails$Ground;I)I"⟩
  | 36 => ⟨"AntTrails$Ground", "<init>", "()V"⟩
  | 37 => ⟨"AntTrails$Ground", "copy", "(LAntTrails$Ground;LAntTrails$Ground;)V"⟩
  | 38 => ⟨"AntTrails$Ground", "isPlace", "(I)Z"⟩
  | 39 => ⟨"AntTrails$Ground", "isPath", "(I)Z"⟩
  | 40 => ⟨"AntTrails$Ground", "hasFood", "()Z"⟩
  | 41 => ⟨"AntTrails$Ground", "hasBest", "()Z"⟩
  | 42 => ⟨"AntTrails$Ground", "isClosed", "(I)Z"⟩
  | 43 => ⟨"AntTrails$Ground", "setting", "(I)I"⟩
  | 44 => ⟨"AntTrails$Ground", "lengthOf", "(I)I"⟩
  | 45 => ⟨"AntTrails$Ground", "weight", "(I)I"⟩
  | 46 => ⟨"AntTrails$Ground", "across", "(II)I"⟩
  | 47 => ⟨"AntTrails$Ground", "openPaths", "()I"⟩
  | 48 => ⟨"AntTrails$Ground", "openPathsAt", "(I)I"⟩
  | 49 => ⟨"AntTrails$Ground", "weightsAt", "(I)I"⟩
  | 50 => ⟨"AntTrails$Ground", "allTrails", "()I"⟩
  | 51 => ⟨"AntTrails$Ground", "greatestTrail", "()I"⟩
  | 52 => ⟨"AntTrails$Ground", "addPlace", "()I"⟩
  | 53 => ⟨"AntTrails$Ground", "addPath", "(III)I"⟩
  | 54 => ⟨"AntTrails$Ground", "bar", "(IZ)I"⟩
  | 55 => ⟨"AntTrails$Ground", "moveFood", "(I)I"⟩
  | 56 => ⟨"AntTrails$Ground", "clearTrails", "()I"⟩
  | 57 => ⟨"AntTrails$Ground", "changeSetting", "(II)I"⟩
  | 58 => ⟨"AntTrails$Ground", "draw", "(I)I"⟩
  | 59 => ⟨"AntTrails$Ground", "countAnt", "(LAntTrails$Way;I)V"⟩
  | 60 => ⟨"AntTrails$Ground", "keepIfBetter", "(LAntTrails$Way;)V"⟩
  | 61 => ⟨"AntTrails$Ground", "laidOn", "(LAntTrails$Way;)I"⟩
  | 62 => ⟨"AntTrails$Ground", "changeTrails", "([I)V"⟩
  | 63 => ⟨"AntTrails$History", "<init>", "()V"⟩
  | 64 => ⟨"AntTrails$History", "prepare", "(LAntTrails$Ground;)V"⟩
  | 65 => ⟨"AntTrails$History", "settle", "(I)I"⟩
  | 66 => ⟨"AntTrails$History", "dropOldest", "()V"⟩
  | 67 => ⟨"AntTrails$History", "restore", "(LAntTrails$Ground;)I"⟩
  | 68 => ⟨"AntTrails$Orders", "<init>", "()V"⟩
  | 69 => ⟨"AntTrails$Orders", "append", "(I)I"⟩
  | 70 => ⟨"AntTrails$Orders", "clear", "()I"⟩
  | 71 => ⟨"AntTrails$Orders", "carryOut", "(LAntTrails$Ground;LAntTrails$Colony;)I"⟩
  | 72 => ⟨"AntTrails$Orders", "noteFault", "(III)V"⟩
  | 73 => ⟨"AntTrails$Orders", "carryOutOne", "(LAntTrails$Ground;LAntTrails$Colony;)I"⟩
  | 74 => ⟨"AntTrails$Orders", "read", "(I)Z"⟩
  | 75 => ⟨"AntTrails$Orders", "numbersOf", "(I)I"⟩
  | 76 => ⟨"AntTrails$Orders", "signHere", "()C"⟩
  | 77 => ⟨"AntTrails$Orders", "skip", "(C)Z"⟩
  | 78 => ⟨"AntTrails$Orders", "readNumber", "(I)Z"⟩
  | 79 => ⟨"AntTrails$Survey", "<init>", "()V"⟩
  | 80 => ⟨"AntTrails$Survey", "distance", "(LAntTrails$Ground;I)I"⟩
  | 81 => ⟨"AntTrails$Survey", "shorten", "(LAntTrails$Ground;I)V"⟩
  | 82 => ⟨"AntTrails$Survey", "followTrails", "(LAntTrails$Ground;)V"⟩
  | 83 => ⟨"AntTrails$Survey", "greatestAhead", "(LAntTrails$Ground;)I"⟩
  | 84 => ⟨"AntTrails$Survey", "isGreater", "(LAntTrails$Ground;II)Z"⟩
  | 85 => ⟨"AntTrails$Way", "<init>", "()V"⟩
  | 86 => ⟨"AntTrails$Way", "begin", "()V"⟩
  | 87 => ⟨"AntTrails$Way", "go", "(III)V"⟩
  | 88 => ⟨"AntTrails$Way", "placeAt", "(I)I"⟩
  | 89 => ⟨"AntTrails$Way", "end", "()I"⟩
  | 90 => ⟨"AntTrails$Way", "hasPath", "(I)Z"⟩
  | 91 => ⟨"AntTrails$Way", "hasPlace", "(I)Z"⟩
  | 92 => ⟨"AntTrails$Way", "isNew", "(I)Z"⟩
  | 93 => ⟨"AntTrails$Way", "copy", "(LAntTrails$Way;LAntTrails$Way;)V"⟩
  | 94 => ⟨"AntTrailsModel", "<init>", "()V"⟩
  | 95 => ⟨"AntTrailsModel", "in", "(III)Z"⟩
  | 96 => ⟨"AntTrailsModel", "isError", "(I)Z"⟩
  | 97 => ⟨"AntTrailsModel", "copies", "([I[I)V"⟩
  | 98 => ⟨"AntTrailsModel", "begins", "()V"⟩
  | 99 => ⟨"AntTrailsModel", "acted", "(I)I"⟩
  | 100 => ⟨"AntTrailsModel", "isPlace", "(I)Z"⟩
  | 101 => ⟨"AntTrailsModel", "isPath", "(I)Z"⟩
  | 102 => ⟨"AntTrailsModel", "of", "(II)I"⟩
  | 103 => ⟨"AntTrailsModel", "lays", "(III)V"⟩
  | 104 => ⟨"AntTrailsModel", "isOpen", "(I)Z"⟩
  | 105 => ⟨"AntTrailsModel", "end", "(II)I"⟩
  | 106 => ⟨"AntTrailsModel", "weight", "(I)I"⟩
  | 107 => ⟨"AntTrailsModel", "openOnes", "()I"⟩
  | 108 => ⟨"AntTrailsModel", "openAt", "(I)I"⟩
  | 109 => ⟨"AntTrailsModel", "trails", "()I"⟩
  | 110 => ⟨"AntTrailsModel", "farFrom", "(I)I"⟩
  | 111 => ⟨"AntTrailsModel", "sets", "()V"⟩
  | 112 => ⟨"AntTrailsModel", "canGo", "(I)Z"⟩
  | 113 => ⟨"AntTrailsModel", "goesAlong", "(I)V"⟩
  | 114 => ⟨"AntTrailsModel", "draws", "()I"⟩
  | 115 => ⟨"AntTrailsModel", "antGoes", "()V"⟩
  | 116 => ⟨"AntTrailsModel", "lays2", "(II)V"⟩
  | 117 => ⟨"AntTrailsModel", "isBest", "()V"⟩
  | 118 => ⟨"AntTrailsModel", "oneLap", "()V"⟩
  | 119 => ⟨"AntTrailsModel", "laps", "(I)V"⟩
  | 120 => ⟨"AntTrailsModel", "goPath", "(III)I"⟩
  | 121 => ⟨"AntTrailsModel", "goClose", "(II)I"⟩
  | 122 => ⟨"AntTrailsModel", "goFood", "(I)I"⟩
  | 123 => ⟨"AntTrailsModel", "goLap", "(I)I"⟩
  | 124 => ⟨"AntTrailsModel", "isValue", "(II)Z"⟩
  | 125 => ⟨"AntTrailsModel", "goSet", "(II)I"⟩
  | 126 => ⟨"AntTrailsModel", "place", "()I"⟩
  | 127 => ⟨"AntTrailsModel", "path", "(III)I"⟩
  | 128 => ⟨"AntTrailsModel", "close", "(IZ)I"⟩
  | 129 => ⟨"AntTrailsModel", "food", "(I)I"⟩
  | 130 => ⟨"AntTrailsModel", "lap", "(I)I"⟩
  | 131 => ⟨"AntTrailsModel", "forget", "()I"⟩
  | 132 => ⟨"AntTrailsModel", "set", "(II)I"⟩
  | 133 => ⟨"AntTrailsModel", "inBest", "(I)I"⟩
  | 134 => ⟨"AntTrailsModel", "pathOf", "(II)I"⟩
  | 135 => ⟨"AntTrailsModel", "onBest", "(I)I"⟩
  | 136 => ⟨"AntTrailsModel", "placeOf", "(II)I"⟩
  | 137 => ⟨"AntTrailsModel", "best", "(I)I"⟩
  | 138 => ⟨"AntTrailsModel", "bestAt", "(I)I"⟩
  | 139 => ⟨"AntTrailsModel", "chance", "(II)I"⟩
  | 140 => ⟨"AntTrailsModel", "isGreater", "(II)Z"⟩
  | 141 => ⟨"AntTrailsModel", "greatestOn", "()I"⟩
  | 142 => ⟨"AntTrailsModel", "greedy", "(I)I"⟩
  | 143 => ⟨"AntTrailsModel", "over", "()I"⟩
  | 144 => ⟨"AntTrailsModel", "ant", "(I)I"⟩
  | 145 => ⟨"AntTrailsModel", "would", "(II)I"⟩
  | 146 => ⟨"AntTrailsModel", "greatest", "()I"⟩
  | 147 => ⟨"AntTrailsModel", "count", "(I)I"⟩
  | 148 => ⟨"AntTrailsModel", "undo", "()I"⟩
  | 149 => ⟨"AntTrailsModel", "type", "(I)I"⟩
  | 150 => ⟨"AntTrailsModel", "clearText", "()I"⟩
  | 151 => ⟨"AntTrailsModel", "sign", "()I"⟩
  | 152 => ⟨"AntTrailsModel", "takes", "(Z)V"⟩
  | 153 => ⟨"AntTrailsModel", "number", "()I"⟩
  | 154 => ⟨"AntTrailsModel", "numbersOf", "(I)I"⟩
  | 155 => ⟨"AntTrailsModel", "takesOrder", "(I)V"⟩
  | 156 => ⟨"AntTrailsModel", "called", "(I)I"⟩
  | 157 => ⟨"AntTrailsModel", "doesAll", "()Z"⟩
  | 158 => ⟨"AntTrailsModel", "fault", "(I)I"⟩
  | 159 => ⟨"AntTrailsModel", "play", "()I"⟩
  | 160 => ⟨"java/lang/Float", "isNaN", "(F)Z"⟩
  | 161 => ⟨"java/lang/Float", "floatToIntBits", "(F)I"⟩
  | _ => ⟨"", "", ""⟩
def mB : Nat → ByteArray := fun m => match m with
  | 0 => code
  | 1 => prog_1_method_1_code
  | 2 => prog_1_method_2_code
  | 3 => prog_1_method_3_code
  | 4 => prog_1_method_4_code
  | 5 => prog_1_method_5_code
  | 6 => prog_1_method_6_code
  | 7 => prog_1_method_7_code
  | 8 => prog_1_method_8_code
  | 9 => prog_1_method_9_code
  | 10 => prog_1_method_10_code
  | 11 => prog_1_method_11_code
  | 12 => prog_1_method_12_code
  | 13 => prog_1_method_13_code
  | 14 => prog_1_method_14_code
  | 15 => prog_1_method_15_code
  | 16 => prog_1_method_16_code
  | 17 => prog_1_method_17_code
  | 18 => prog_1_method_18_code
  | 19 => prog_1_method_19_code
  | 20 => prog_1_method_20_code
  | 21 => prog_1_method_21_code
  | 22 => prog_1_method_22_code
  | 23 => prog_1_method_23_code
  | 24 => prog_1_method_24_code
  | 25 => prog_1_method_25_code
  | 26 => prog_1_method_26_code
  | 27 => prog_1_method_27_code
  | 28 => prog_1_method_28_code
  | 29 => prog_2_method_1_code
  | 30 => prog_2_method_2_code
  | 31 => prog_2_method_3_code
  | 32 => prog_2_method_4_code
  | 33 => prog_2_method_5_code
  | 34 => prog_2_method_6_code
  | 35 => prog_2_method_7_code
  | 36 => prog_3_method_1_code
  | 37 => prog_3_method_2_code
  | 38 => prog_3_method_3_code
  | 39 => prog_3_method_4_code
  | 40 => prog_3_method_5_code
  | 41 => prog_3_method_6_code
  | 42 => prog_3_method_7_code
  | 43 => prog_3_method_8_code
  | 44 => prog_3_method_9_code
  | 45 => prog_3_method_10_code
  | 46 => prog_3_method_11_code
  | 47 => prog_3_method_12_code
  | 48 => prog_3_method_13_code
  | 49 => prog_3_method_14_code
  | 50 => prog_3_method_15_code
  | 51 => prog_3_method_16_code
  | 52 => prog_3_method_17_code
  | 53 => prog_3_method_18_code
  | 54 => prog_3_method_19_code
  | 55 => prog_3_method_20_code
  | 56 => prog_3_method_21_code
  | 57 => prog_3_method_22_code
  | 58 => prog_3_method_23_code
  | 59 => prog_3_method_24_code
  | 60 => prog_3_method_25_code
  | 61 => prog_3_method_26_code
  | 62 => prog_3_method_27_code
  | 63 => prog_4_method_1_code
  | 64 => prog_4_method_2_code
  | 65 => prog_4_method_3_code
  | 66 => prog_4_method_4_code
  | 67 => prog_4_method_5_code
  | 68 => prog_5_method_1_code
  | 69 => prog_5_method_2_code
  | 70 => prog_5_method_3_code
  | 71 => prog_5_method_4_code
  | 72 => prog_5_method_5_code
  | 73 => prog_5_method_6_code
  | 74 => prog_5_method_7_code
  | 75 => prog_5_method_8_code
  | 76 => prog_5_method_9_code
  | 77 => prog_5_method_10_code
  | 78 => prog_5_method_11_code
  | 79 => prog_6_method_1_code
  | 80 => prog_6_method_2_code
  | 81 => prog_6_method_3_code
  | 82 => prog_6_method_4_code
  | 83 => prog_6_method_5_code
  | 84 => prog_6_method_6_code
  | 85 => prog_7_method_1_code
  | 86 => prog_7_method_2_code
  | 87 => prog_7_method_3_code
  | 88 => prog_7_method_4_code
  | 89 => prog_7_method_5_code
  | 90 => prog_7_method_6_code
  | 91 => prog_7_method_7_code
  | 92 => prog_7_method_8_code
  | 93 => prog_7_method_9_code
  | 94 => prog_9_method_1_code
  | 95 => prog_9_method_3_code
  | 96 => prog_9_method_4_code
  | 97 => prog_9_method_5_code
  | 98 => prog_9_method_6_code
  | 99 => prog_9_method_7_code
  | 100 => prog_9_method_8_code
  | 101 => prog_9_method_9_code
  | 102 => prog_9_method_10_code
  | 103 => prog_9_method_11_code
  | 104 => prog_9_method_12_code
  | 105 => prog_9_method_13_code
  | 106 => prog_9_method_14_code
  | 107 => prog_9_method_15_code
  | 108 => prog_9_method_16_code
  | 109 => prog_9_method_17_code
  | 110 => prog_9_method_18_code
  | 111 => prog_9_method_19_code
  | 112 => prog_9_method_20_code
  | 113 => prog_9_method_21_code
  | 114 => prog_9_method_22_code
  | 115 => prog_9_method_23_code
  | 116 => prog_9_method_24_code
  | 117 => prog_9_method_25_code
  | 118 => prog_9_method_26_code
  | 119 => prog_9_method_27_code
  | 120 => prog_9_method_28_code
  | 121 => prog_9_method_29_code
  | 122 => prog_9_method_30_code
  | 123 => prog_9_method_31_code
  | 124 => prog_9_method_32_code
  | 125 => prog_9_method_33_code
  | 126 => prog_9_method_34_code
  | 127 => prog_9_method_35_code
  | 128 => prog_9_method_36_code
  | 129 => prog_9_method_37_code
  | 130 => prog_9_method_38_code
  | 131 => prog_9_method_39_code
  | 132 => prog_9_method_40_code
  | 133 => prog_9_method_41_code
  | 134 => prog_9_method_42_code
  | 135 => prog_9_method_43_code
  | 136 => prog_9_method_44_code
  | 137 => prog_9_method_45_code
  | 138 => prog_9_method_46_code
  | 139 => prog_9_method_47_code
  | 140 => prog_9_method_48_code
  | 141 => prog_9_method_49_code
  | 142 => prog_9_method_50_code
  | 143 => prog_9_method_51_code
  | 144 => prog_9_method_52_code
  | 145 => prog_9_method_53_code
  | 146 => prog_9_method_54_code
  | 147 => prog_9_method_55_code
  | 148 => prog_9_method_56_code
  | 149 => prog_9_method_57_code
  | 150 => prog_9_method_58_code
  | 151 => prog_9_method_59_code
  | 152 => prog_9_method_60_code
  | 153 => prog_9_method_61_code
  | 154 => prog_9_method_62_code
  | 155 => prog_9_method_63_code
  | 156 => prog_9_method_64_code
  | 157 => prog_9_method_65_code
  | 158 => prog_9_method_66_code
  | 159 => prog_9_method_67_code
  | 160 => prog_10_method_6_code
  | 161 => prog_10_method_24_code
  | _ => code
def mL : Nat → Nat := fun m => match m with
  | 0 => 4
  | 1 => 1
  | 2 => 1
  | 3 => 4
  | 4 => 3
  | 5 => 2
  | 6 => 2
  | 7 => 1
  | 8 => 3
  | 9 => 3
  | 10 => 3
  | 11 => 2
  | 12 => 2
  | 13 => 4
  | 14 => 2
  | 15 => 2
  | 16 => 3
  | 17 => 4
  | 18 => 2
  | 19 => 1
  | 20 => 2
  | 21 => 1
  | 22 => 2
  | 23 => 2
  | 24 => 3
  | 25 => 1
  | 26 => 2
  | 27 => 3
  | 28 => 4
  | 29 => 1
  | 30 => 8
  | 31 => 2
  | 32 => 3
  | 33 => 6
  | 34 => 5
  | 35 => 5
  | 36 => 1
  | 37 => 2
  | 38 => 2
  | 39 => 2
  | 40 => 1
  | 41 => 1
  | 42 => 2
  | 43 => 2
  | 44 => 2
  | 45 => 2
  | 46 => 3
  | 47 => 3
  | 48 => 4
  | 49 => 4
  | 50 => 3
  | 51 => 3
  | 52 => 1
  | 53 => 5
  | 54 => 3
  | 55 => 3
  | 56 => 3
  | 57 => 4
  | 58 => 2
  | 59 => 4
  | 60 => 2
  | 61 => 2
  | 62 => 5
  | 63 => 2
  | 64 => 2
  | 65 => 2
  | 66 => 3
  | 67 => 2
  | 68 => 1
  | 69 => 2
  | 70 => 2
  | 71 => 6
  | 72 => 4
  | 73 => 3
  | 74 => 4
  | 75 => 1
  | 76 => 1
  | 77 => 2
  | 78 => 4
  | 79 => 1
  | 80 => 5
  | 81 => 5
  | 82 => 4
  | 83 => 6
  | 84 => 3
  | 85 => 1
  | 86 => 1
  | 87 => 4
  | 88 => 2
  | 89 => 1
  | 90 => 2
  | 91 => 2
  | 92 => 2
  | 93 => 2
  | 94 => 1
  | 95 => 3
  | 96 => 1
  | 97 => 3
  | 98 => 1
  | 99 => 3
  | 100 => 2
  | 101 => 2
  | 102 => 3
  | 103 => 4
  | 104 => 2
  | 105 => 3
  | 106 => 2
  | 107 => 3
  | 108 => 4
  | 109 => 3
  | 110 => 7
  | 111 => 1
  | 112 => 3
  | 113 => 2
  | 114 => 8
  | 115 => 2
  | 116 => 4
  | 117 => 2
  | 118 => 4
  | 119 => 3
  | 120 => 5
  | 121 => 3
  | 122 => 3
  | 123 => 3
  | 124 => 2
  | 125 => 4
  | 126 => 1
  | 127 => 4
  | 128 => 3
  | 129 => 2
  | 130 => 2
  | 131 => 3
  | 132 => 3
  | 133 => 2
  | 134 => 3
  | 135 => 4
  | 136 => 3
  | 137 => 2
  | 138 => 2
  | 139 => 5
  | 140 => 4
  | 141 => 4
  | 142 => 4
  | 143 => 2
  | 144 => 2
  | 145 => 4
  | 146 => 3
  | 147 => 2
  | 148 => 2
  | 149 => 2
  | 150 => 2
  | 151 => 1
  | 152 => 2
  | 153 => 3
  | 154 => 1
  | 155 => 4
  | 156 => 2
  | 157 => 2
  | 158 => 3
  | 159 => 1
  | 160 => 1
  | 161 => 1
  | _ => 0
def mR : Nat → Option FieldType := fun m => match m with
  | 0 => some .boolean
  | 1 => none
  | 2 => some .int
  | 3 => some .int
  | 4 => some .int
  | 5 => some .int
  | 6 => some .int
  | 7 => some .int
  | 8 => some .int
  | 9 => some .int
  | 10 => some .int
  | 11 => some .int
  | 12 => some .int
  | 13 => some .int
  | 14 => some .int
  | 15 => some .int
  | 16 => some .int
  | 17 => some .int
  | 18 => some .int
  | 19 => some .int
  | 20 => some .int
  | 21 => some .int
  | 22 => some .int
  | 23 => some .int
  | 24 => some .boolean
  | 25 => some .boolean
  | 26 => some .boolean
  | 27 => none
  | 28 => some .int
  | 29 => none
  | 30 => some .int
  | 31 => none
  | 32 => none
  | 33 => some .int
  | 34 => some .int
  | 35 => some .int
  | 36 => none
  | 37 => none
  | 38 => some .boolean
  | 39 => some .boolean
  | 40 => some .boolean
  | 41 => some .boolean
  | 42 => some .boolean
  | 43 => some .int
  | 44 => some .int
  | 45 => some .int
  | 46 => some .int
  | 47 => some .int
  | 48 => some .int
  | 49 => some .int
  | 50 => some .int
  | 51 => some .int
  | 52 => some .int
  | 53 => some .int
  | 54 => some .int
  | 55 => some .int
  | 56 => some .int
  | 57 => some .int
  | 58 => some .int
  | 59 => none
  | 60 => none
  | 61 => some .int
  | 62 => none
  | 63 => none
  | 64 => none
  | 65 => some .int
  | 66 => none
  | 67 => some .int
  | 68 => none
  | 69 => some .int
  | 70 => some .int
  | 71 => some .int
  | 72 => none
  | 73 => some .int
  | 74 => some .boolean
  | 75 => some .int
  | 76 => some .char
  | 77 => some .boolean
  | 78 => some .boolean
  | 79 => none
  | 80 => some .int
  | 81 => none
  | 82 => none
  | 83 => some .int
  | 84 => some .boolean
  | 85 => none
  | 86 => none
  | 87 => none
  | 88 => some .int
  | 89 => some .int
  | 90 => some .boolean
  | 91 => some .boolean
  | 92 => some .boolean
  | 93 => none
  | 94 => none
  | 95 => some .boolean
  | 96 => some .boolean
  | 97 => none
  | 98 => none
  | 99 => some .int
  | 100 => some .boolean
  | 101 => some .boolean
  | 102 => some .int
  | 103 => none
  | 104 => some .boolean
  | 105 => some .int
  | 106 => some .int
  | 107 => some .int
  | 108 => some .int
  | 109 => some .int
  | 110 => some .int
  | 111 => none
  | 112 => some .boolean
  | 113 => none
  | 114 => some .int
  | 115 => none
  | 116 => none
  | 117 => none
  | 118 => none
  | 119 => none
  | 120 => some .int
  | 121 => some .int
  | 122 => some .int
  | 123 => some .int
  | 124 => some .boolean
  | 125 => some .int
  | 126 => some .int
  | 127 => some .int
  | 128 => some .int
  | 129 => some .int
  | 130 => some .int
  | 131 => some .int
  | 132 => some .int
  | 133 => some .int
  | 134 => some .int
  | 135 => some .int
  | 136 => some .int
  | 137 => some .int
  | 138 => some .int
  | 139 => some .int
  | 140 => some .boolean
  | 141 => some .int
  | 142 => some .int
  | 143 => some .int
  | 144 => some .int
  | 145 => some .int
  | 146 => some .int
  | 147 => some .int
  | 148 => some .int
  | 149 => some .int
  | 150 => some .int
  | 151 => some .int
  | 152 => none
  | 153 => some .int
  | 154 => some .int
  | 155 => none
  | 156 => some .int
  | 157 => some .boolean
  | 158 => some .int
  | 159 => some .int
  | 160 => some .boolean
  | 161 => some .int
  | _ => none
def mK : Nat → Nat := fun m => match m with
  | 0 => 11
  | 1 => 4
  | 2 => 4
  | 3 => 4
  | 4 => 4
  | 5 => 4
  | 6 => 5
  | 7 => 4
  | 8 => 4
  | 9 => 2
  | 10 => 4
  | 11 => 1
  | 12 => 1
  | 13 => 3
  | 14 => 4
  | 15 => 4
  | 16 => 4
  | 17 => 5
  | 18 => 3
  | 19 => 4
  | 20 => 2
  | 21 => 1
  | 22 => 7
  | 23 => 7
  | 24 => 0
  | 25 => 0
  | 26 => 0
  | 27 => 0
  | 28 => 0
  | 29 => 2
  | 30 => 4
  | 31 => 0
  | 32 => 2
  | 33 => 3
  | 34 => 2
  | 35 => 0
  | 36 => 2
  | 37 => 2
  | 38 => 0
  | 39 => 0
  | 40 => 0
  | 41 => 0
  | 42 => 1
  | 43 => 0
  | 44 => 1
  | 45 => 1
  | 46 => 1
  | 47 => 2
  | 48 => 2
  | 49 => 2
  | 50 => 0
  | 51 => 1
  | 52 => 0
  | 53 => 1
  | 54 => 3
  | 55 => 1
  | 56 => 1
  | 57 => 1
  | 58 => 0
  | 59 => 2
  | 60 => 2
  | 61 => 1
  | 62 => 2
  | 63 => 3
  | 64 => 3
  | 65 => 1
  | 66 => 0
  | 67 => 3
  | 68 => 1
  | 69 => 1
  | 70 => 0
  | 71 => 6
  | 72 => 0
  | 73 => 5
  | 74 => 2
  | 75 => 0
  | 76 => 0
  | 77 => 1
  | 78 => 1
  | 79 => 2
  | 80 => 3
  | 81 => 2
  | 82 => 3
  | 83 => 2
  | 84 => 1
  | 85 => 1
  | 86 => 0
  | 87 => 0
  | 88 => 0
  | 89 => 1
  | 90 => 1
  | 91 => 1
  | 92 => 1
  | 93 => 1
  | 94 => 1
  | 95 => 0
  | 96 => 1
  | 97 => 0
  | 98 => 1
  | 99 => 2
  | 100 => 1
  | 101 => 1
  | 102 => 0
  | 103 => 0
  | 104 => 1
  | 105 => 1
  | 106 => 1
  | 107 => 2
  | 108 => 2
  | 109 => 1
  | 110 => 2
  | 111 => 0
  | 112 => 2
  | 113 => 2
  | 114 => 3
  | 115 => 4
  | 116 => 1
  | 117 => 0
  | 118 => 5
  | 119 => 6
  | 120 => 2
  | 121 => 3
  | 122 => 2
  | 123 => 7
  | 124 => 1
  | 125 => 2
  | 126 => 3
  | 127 => 3
  | 128 => 4
  | 129 => 3
  | 130 => 8
  | 131 => 3
  | 132 => 3
  | 133 => 0
  | 134 => 2
  | 135 => 0
  | 136 => 3
  | 137 => 1
  | 138 => 0
  | 139 => 2
  | 140 => 1
  | 141 => 3
  | 142 => 4
  | 143 => 3
  | 144 => 5
  | 145 => 7
  | 146 => 1
  | 147 => 3
  | 148 => 0
  | 149 => 1
  | 150 => 0
  | 151 => 0
  | 152 => 0
  | 153 => 1
  | 154 => 0
  | 155 => 2
  | 156 => 8
  | 157 => 9
  | 158 => 10
  | 159 => 10
  | 160 => 0
  | 161 => 1
  | _ => 0
def mW : Nat → Nat × Nat × Nat × Nat := fun m => match m with
  | 0 => (0, 0, 0, 0)
  | 1 => (66, 65, 0, 52)
  | 2 => (298, 296, 297, 52)
  | 3 => (330, 328, 329, 52)
  | 4 => (350, 348, 349, 52)
  | 5 => (371, 369, 370, 52)
  | 6 => (383, 381, 382, 52)
  | 7 => (494, 492, 493, 52)
  | 8 => (506, 504, 505, 52)
  | 9 => (518, 516, 517, 52)
  | 10 => (526, 524, 525, 52)
  | 11 => (553, 551, 552, 52)
  | 12 => (559, 557, 558, 52)
  | 13 => (564, 562, 563, 52)
  | 14 => (578, 576, 577, 52)
  | 15 => (602, 600, 601, 52)
  | 16 => (606, 604, 605, 52)
  | 17 => (612, 610, 611, 52)
  | 18 => (618, 616, 617, 52)
  | 19 => (628, 626, 627, 52)
  | 20 => (637, 635, 636, 52)
  | 21 => (648, 646, 647, 52)
  | 22 => (656, 654, 655, 52)
  | 23 => (697, 695, 696, 52)
  | 24 => (341, 340, 0, 52)
  | 25 => (321, 320, 0, 52)
  | 26 => (427, 426, 0, 52)
  | 27 => (109, 108, 0, 52)
  | 28 => (573, 572, 0, 52)
  | 29 => (209, 208, 0, 56)
  | 30 => (387, 385, 386, 56)
  | 31 => (399, 398, 1, 56)
  | 32 => (470, 469, 4, 56)
  | 33 => (403, 401, 402, 56)
  | 34 => (416, 415, 2, 56)
  | 35 => (441, 440, 3, 56)
  | 36 => (74, 73, 0, 53)
  | 37 => (305, 304, 0, 53)
  | 38 => (338, 336, 337, 53)
  | 39 => (358, 356, 357, 53)
  | 40 => (393, 391, 392, 53)
  | 41 => (479, 477, 478, 53)
  | 42 => (362, 360, 361, 53)
  | 43 => (346, 344, 345, 53)
  | 44 => (445, 443, 444, 53)
  | 45 => (431, 429, 430, 53)
  | 46 => (420, 418, 419, 53)
  | 47 => (367, 365, 366, 53)
  | 48 => (531, 529, 530, 53)
  | 49 => (568, 566, 567, 53)
  | 50 => (502, 500, 501, 53)
  | 51 => (624, 622, 623, 53)
  | 52 => (313, 311, 312, 53)
  | 53 => (334, 332, 333, 53)
  | 54 => (354, 352, 353, 53)
  | 55 => (375, 373, 374, 53)
  | 56 => (498, 496, 497, 53)
  | 57 => (510, 508, 509, 53)
  | 58 => (435, 433, 434, 53)
  | 59 => (453, 451, 452, 53)
  | 60 => (475, 473, 474, 53)
  | 61 => (466, 464, 465, 53)
  | 62 => (483, 481, 482, 53)
  | 63 => (192, 191, 0, 55)
  | 64 => (302, 300, 301, 55)
  | 65 => (318, 316, 317, 55)
  | 66 => (326, 325, 0, 55)
  | 67 => (632, 630, 631, 55)
  | 68 => (244, 243, 0, 58)
  | 69 => (641, 639, 640, 58)
  | 70 => (652, 650, 651, 58)
  | 71 => (660, 658, 659, 58)
  | 72 => (683, 682, 11, 58)
  | 73 => (687, 686, 12, 58)
  | 74 => (664, 663, 7, 58)
  | 75 => (671, 670, 0, 58)
  | 76 => (668, 667, 8, 58)
  | 77 => (675, 674, 9, 58)
  | 78 => (679, 678, 10, 58)
  | 79 => (228, 227, 0, 57)
  | 80 => (536, 534, 535, 57)
  | 81 => (543, 542, 5, 57)
  | 82 => (584, 582, 583, 57)
  | 83 => (590, 589, 6, 57)
  | 84 => (595, 594, 0, 57)
  | 85 => (80, 79, 0, 54)
  | 86 => (379, 377, 378, 54)
  | 87 => (449, 447, 448, 54)
  | 88 => (412, 410, 411, 54)
  | 89 => (408, 406, 407, 54)
  | 90 => (457, 455, 456, 54)
  | 91 => (461, 459, 460, 54)
  | 92 => (424, 422, 423, 54)
  | 93 => (308, 307, 0, 54)
  | 94 => (702, 701, 0, 59)
  | 95 => (797, 796, 0, 59)
  | 96 => (792, 791, 0, 59)
  | 97 => (785, 784, 0, 59)
  | 98 => (782, 781, 13, 59)
  | 99 => (789, 788, 14, 59)
  | 100 => (809, 808, 16, 59)
  | 101 => (825, 824, 19, 59)
  | 102 => (829, 828, 20, 59)
  | 103 => (813, 812, 17, 59)
  | 104 => (838, 837, 22, 59)
  | 105 => (882, 881, 31, 59)
  | 106 => (886, 885, 32, 59)
  | 107 => (834, 833, 21, 59)
  | 108 => (935, 934, 39, 59)
  | 109 => (908, 907, 36, 59)
  | 110 => (939, 938, 40, 59)
  | 111 => (870, 869, 28, 59)
  | 112 => (878, 877, 30, 59)
  | 113 => (892, 891, 33, 59)
  | 114 => (874, 873, 29, 59)
  | 115 => (866, 865, 27, 59)
  | 116 => (900, 899, 35, 59)
  | 117 => (896, 895, 34, 59)
  | 118 => (862, 861, 26, 59)
  | 119 => (858, 857, 25, 59)
  | 120 => (805, 804, 15, 59)
  | 121 => (821, 820, 18, 59)
  | 122 => (846, 845, 23, 59)
  | 123 => (854, 853, 24, 59)
  | 124 => (919, 918, 0, 59)
  | 125 => (916, 915, 37, 59)
  | 126 => (777, 775, 776, 59)
  | 127 => (801, 799, 800, 59)
  | 128 => (817, 815, 816, 59)
  | 129 => (842, 840, 841, 59)
  | 130 => (850, 848, 849, 59)
  | 131 => (904, 902, 903, 59)
  | 132 => (912, 910, 911, 59)
  | 133 => (927, 926, 38, 59)
  | 134 => (923, 921, 922, 59)
  | 135 => (943, 942, 41, 59)
  | 136 => (931, 929, 930, 59)
  | 137 => (947, 945, 946, 59)
  | 138 => (951, 949, 950, 59)
  | 139 => (955, 953, 954, 59)
  | 140 => (977, 976, 43, 59)
  | 141 => (973, 972, 42, 59)
  | 142 => (969, 967, 968, 59)
  | 143 => (981, 979, 980, 59)
  | 144 => (985, 983, 984, 59)
  | 145 => (989, 987, 988, 59)
  | 146 => (997, 996, 44, 59)
  | 147 => (993, 991, 992, 59)
  | 148 => (1001, 999, 1000, 59)
  | 149 => (1005, 1003, 1004, 59)
  | 150 => (1009, 1007, 1008, 59)
  | 151 => (1021, 1020, 46, 59)
  | 152 => (1032, 1031, 48, 59)
  | 153 => (1036, 1035, 49, 59)
  | 154 => (1028, 1027, 0, 59)
  | 155 => (1025, 1024, 47, 59)
  | 156 => (1040, 1039, 50, 59)
  | 157 => (1017, 1016, 45, 59)
  | 158 => (1013, 1011, 1012, 59)
  | 159 => (1044, 1042, 1043, 59)
  | 160 => (961, 960, 0, 61)
  | 161 => (958, 957, 0, 61)
  | _ => (0, 0, 0, 0)
abbrev En := Nat × Instr × Nat × Nat × Nat × Nat × Nat × Value × List (Int32 × Nat)
def cd0_0 : List En := [(0, .new 7, 3, 16, 6, 0, 62, .null, []),
  (3, .dup, 4, 0, 0, 0, 0, .null, []),
  (4, .invokespecial 9, 7, 1, 0, 16, 64, .retAddr 1, []),
  (7, .astore_n 1, 8, 0, 0, 0, 0, .null, []),
  (8, .new 10, 11, 17, 23, 0, 698, .null, []),
  (11, .dup, 12, 0, 0, 0, 0, .null, []),
  (12, .invokespecial 12, 15, 94, 0, 17, 700, .retAddr 1, []),
  (15, .astore_n 2, 16, 0, 0, 0, 0, .null, []),
  (16, .iconst 0, 17, 0, 0, 0, 0, .int (nI 0), []),
  (17, .istore_n 3, 18, 0, 0, 0, 0, .null, []),
  (18, .iload_n 3, 19, 0, 0, 0, 0, .null, []),
  (19, .aload_n 0, 20, 0, 0, 0, 0, .null, []),
  (20, .arraylength, 21, 0, 0, 0, 0, .null, []),
  (21, .iconst 4, 22, 0, 0, 0, 0, .int (nI 4), []),
  (22, .isub, 23, 0, 0, 0, 0, .null, []),
  (23, .if_icmp .gt 661, 26, 684, 0, 0, 0, .null, []),
  (26, .aload_n 0, 27, 0, 0, 0, 0, .null, []),
  (27, .iload_n 3, 28, 0, 0, 0, 0, .null, []),
  (28, .iaload, 29, 0, 0, 0, 0, .null, []),
  (29, .bipush 31, 31, 0, 0, 0, 0, .int (nI 31), []),
  (31, .iand, 32, 0, 0, 0, 0, .null, []),
  (32, .tableswitch 646 0 21 #[104, 117, 160, 209, 232, 255, 268, 301, 334, 367, 390, 413, 446, 469, 482, 505, 538, 561, 574, 597, 610, 633], 136, 678, 0, 0, 0, .null, [(nI 0, 136), (nI 1, 149), (nI 2, 192), (nI 3, 241), (nI 4, 264), (nI 5, 287), (nI 6, 300), (nI 7, 333), (nI 8, 366), (nI 9, 399), (nI 10, 422), (nI 11, 445), (nI 12, 478), (nI 13, 501), (nI 14, 514), (nI 15, 537), (nI 16, 570), (nI 17, 593), (nI 18, 606), (nI 19, 629), (nI 20, 642), (nI 21, 665)]),
  (136, .aload_n 1, 137, 0, 0, 0, 0, .null, []),
  (137, .invokevirtual 13, 140, 2, 0, 16, 295, .retAddr 1, []),
  (140, .aload_n 2, 141, 0, 0, 0, 0, .null, []),
  (141, .invokevirtual 17, 144, 126, 0, 17, 774, .retAddr 1, []),
  (144, .if_icmp .eq 534, 147, 678, 0, 0, 0, .null, []),
  (147, .iconst 0, 148, 0, 0, 0, 0, .int (nI 0), []),
  (148, .ireturn, 149, 0, 0, 0, 0, .int 1, []),
  (149, .aload_n 1, 150, 0, 0, 0, 0, .null, []),
  (150, .aload_n 0, 151, 0, 0, 0, 0, .null, []),
  (151, .iload_n 3, 152, 0, 0, 0, 0, .null, []),
  (152, .iconst 1, 153, 0, 0, 0, 0, .int (nI 1), []),
  (153, .iadd, 154, 0, 0, 0, 0, .null, []),
  (154, .iaload, 155, 0, 0, 0, 0, .null, []),
  (155, .aload_n 0, 156, 0, 0, 0, 0, .null, []),
  (156, .iload_n 3, 157, 0, 0, 0, 0, .null, []),
  (157, .iconst 2, 158, 0, 0, 0, 0, .int (nI 2), []),
  (158, .iadd, 159, 0, 0, 0, 0, .null, []),
  (159, .iaload, 160, 0, 0, 0, 0, .null, []),
  (160, .aload_n 0, 161, 0, 0, 0, 0, .null, []),
  (161, .iload_n 3, 162, 0, 0, 0, 0, .null, []),
  (162, .iconst 3, 163, 0, 0, 0, 0, .int (nI 3), []),
  (163, .iadd, 164, 0, 0, 0, 0, .null, []),
  (164, .iaload, 165, 0, 0, 0, 0, .null, []),
  (165, .invokevirtual 18, 168, 3, 0, 16, 327, .retAddr 4, []),
  (168, .aload_n 2, 169, 0, 0, 0, 0, .null, []),
  (169, .aload_n 0, 170, 0, 0, 0, 0, .null, []),
  (170, .iload_n 3, 171, 0, 0, 0, 0, .null, []),
  (171, .iconst 1, 172, 0, 0, 0, 0, .int (nI 1), [])]
def cd0_1 : List En := [(172, .iadd, 173, 0, 0, 0, 0, .null, []),
  (173, .iaload, 174, 0, 0, 0, 0, .null, []),
  (174, .aload_n 0, 175, 0, 0, 0, 0, .null, []),
  (175, .iload_n 3, 176, 0, 0, 0, 0, .null, []),
  (176, .iconst 2, 177, 0, 0, 0, 0, .int (nI 2), []),
  (177, .iadd, 178, 0, 0, 0, 0, .null, []),
  (178, .iaload, 179, 0, 0, 0, 0, .null, []),
  (179, .aload_n 0, 180, 0, 0, 0, 0, .null, []),
  (180, .iload_n 3, 181, 0, 0, 0, 0, .null, []),
  (181, .iconst 3, 182, 0, 0, 0, 0, .int (nI 3), []),
  (182, .iadd, 183, 0, 0, 0, 0, .null, []),
  (183, .iaload, 184, 0, 0, 0, 0, .null, []),
  (184, .invokevirtual 22, 187, 127, 0, 17, 798, .retAddr 4, []),
  (187, .if_icmp .eq 491, 190, 678, 0, 0, 0, .null, []),
  (190, .iconst 0, 191, 0, 0, 0, 0, .int (nI 0), []),
  (191, .ireturn, 192, 0, 0, 0, 0, .int 1, []),
  (192, .aload_n 1, 193, 0, 0, 0, 0, .null, []),
  (193, .aload_n 0, 194, 0, 0, 0, 0, .null, []),
  (194, .iload_n 3, 195, 0, 0, 0, 0, .null, []),
  (195, .iconst 1, 196, 0, 0, 0, 0, .int (nI 1), []),
  (196, .iadd, 197, 0, 0, 0, 0, .null, []),
  (197, .iaload, 198, 0, 0, 0, 0, .null, []),
  (198, .aload_n 0, 199, 0, 0, 0, 0, .null, []),
  (199, .iload_n 3, 200, 0, 0, 0, 0, .null, []),
  (200, .iconst 2, 201, 0, 0, 0, 0, .int (nI 2), []),
  (201, .iadd, 202, 0, 0, 0, 0, .null, []),
  (202, .iaload, 203, 0, 0, 0, 0, .null, []),
  (203, .ifCond .eq 7, 206, 210, 0, 0, 0, .null, []),
  (206, .iconst 1, 207, 0, 0, 0, 0, .int (nI 1), []),
  (207, .goto 4, 210, 211, 0, 0, 0, .null, []),
  (210, .iconst 0, 211, 0, 0, 0, 0, .int (nI 0), []),
  (211, .invokevirtual 23, 214, 4, 0, 16, 347, .retAddr 3, []),
  (214, .aload_n 2, 215, 0, 0, 0, 0, .null, []),
  (215, .aload_n 0, 216, 0, 0, 0, 0, .null, []),
  (216, .iload_n 3, 217, 0, 0, 0, 0, .null, []),
  (217, .iconst 1, 218, 0, 0, 0, 0, .int (nI 1), []),
  (218, .iadd, 219, 0, 0, 0, 0, .null, []),
  (219, .iaload, 220, 0, 0, 0, 0, .null, []),
  (220, .aload_n 0, 221, 0, 0, 0, 0, .null, []),
  (221, .iload_n 3, 222, 0, 0, 0, 0, .null, []),
  (222, .iconst 2, 223, 0, 0, 0, 0, .int (nI 2), []),
  (223, .iadd, 224, 0, 0, 0, 0, .null, []),
  (224, .iaload, 225, 0, 0, 0, 0, .null, []),
  (225, .ifCond .eq 7, 228, 232, 0, 0, 0, .null, []),
  (228, .iconst 1, 229, 0, 0, 0, 0, .int (nI 1), []),
  (229, .goto 4, 232, 233, 0, 0, 0, .null, []),
  (232, .iconst 0, 233, 0, 0, 0, 0, .int (nI 0), []),
  (233, .invokevirtual 27, 236, 128, 0, 17, 814, .retAddr 3, []),
  (236, .if_icmp .eq 442, 239, 678, 0, 0, 0, .null, []),
  (239, .iconst 0, 240, 0, 0, 0, 0, .int (nI 0), [])]
def cd0_2 : List En := [(240, .ireturn, 241, 0, 0, 0, 0, .int 1, []),
  (241, .aload_n 1, 242, 0, 0, 0, 0, .null, []),
  (242, .aload_n 0, 243, 0, 0, 0, 0, .null, []),
  (243, .iload_n 3, 244, 0, 0, 0, 0, .null, []),
  (244, .iconst 1, 245, 0, 0, 0, 0, .int (nI 1), []),
  (245, .iadd, 246, 0, 0, 0, 0, .null, []),
  (246, .iaload, 247, 0, 0, 0, 0, .null, []),
  (247, .invokevirtual 28, 250, 5, 0, 16, 368, .retAddr 2, []),
  (250, .aload_n 2, 251, 0, 0, 0, 0, .null, []),
  (251, .aload_n 0, 252, 0, 0, 0, 0, .null, []),
  (252, .iload_n 3, 253, 0, 0, 0, 0, .null, []),
  (253, .iconst 1, 254, 0, 0, 0, 0, .int (nI 1), []),
  (254, .iadd, 255, 0, 0, 0, 0, .null, []),
  (255, .iaload, 256, 0, 0, 0, 0, .null, []),
  (256, .invokevirtual 32, 259, 129, 0, 17, 839, .retAddr 2, []),
  (259, .if_icmp .eq 419, 262, 678, 0, 0, 0, .null, []),
  (262, .iconst 0, 263, 0, 0, 0, 0, .int (nI 0), []),
  (263, .ireturn, 264, 0, 0, 0, 0, .int 1, []),
  (264, .aload_n 1, 265, 0, 0, 0, 0, .null, []),
  (265, .aload_n 0, 266, 0, 0, 0, 0, .null, []),
  (266, .iload_n 3, 267, 0, 0, 0, 0, .null, []),
  (267, .iconst 1, 268, 0, 0, 0, 0, .int (nI 1), []),
  (268, .iadd, 269, 0, 0, 0, 0, .null, []),
  (269, .iaload, 270, 0, 0, 0, 0, .null, []),
  (270, .invokevirtual 33, 273, 6, 0, 16, 380, .retAddr 2, []),
  (273, .aload_n 2, 274, 0, 0, 0, 0, .null, []),
  (274, .aload_n 0, 275, 0, 0, 0, 0, .null, []),
  (275, .iload_n 3, 276, 0, 0, 0, 0, .null, []),
  (276, .iconst 1, 277, 0, 0, 0, 0, .int (nI 1), []),
  (277, .iadd, 278, 0, 0, 0, 0, .null, []),
  (278, .iaload, 279, 0, 0, 0, 0, .null, []),
  (279, .invokevirtual 36, 282, 130, 0, 17, 847, .retAddr 2, []),
  (282, .if_icmp .eq 396, 285, 678, 0, 0, 0, .null, []),
  (285, .iconst 0, 286, 0, 0, 0, 0, .int (nI 0), []),
  (286, .ireturn, 287, 0, 0, 0, 0, .int 1, []),
  (287, .aload_n 1, 288, 0, 0, 0, 0, .null, []),
  (288, .invokevirtual 37, 291, 7, 0, 16, 491, .retAddr 1, []),
  (291, .aload_n 2, 292, 0, 0, 0, 0, .null, []),
  (292, .invokevirtual 40, 295, 131, 2, 17, 901, .retAddr 1, []),
  (295, .if_icmp .eq 383, 298, 678, 0, 0, 0, .null, []),
  (298, .iconst 0, 299, 0, 0, 0, 0, .int (nI 0), []),
  (299, .ireturn, 300, 0, 0, 0, 0, .int 1, []),
  (300, .aload_n 1, 301, 0, 0, 0, 0, .null, []),
  (301, .aload_n 0, 302, 0, 0, 0, 0, .null, []),
  (302, .iload_n 3, 303, 0, 0, 0, 0, .null, []),
  (303, .iconst 1, 304, 0, 0, 0, 0, .int (nI 1), []),
  (304, .iadd, 305, 0, 0, 0, 0, .null, []),
  (305, .iaload, 306, 0, 0, 0, 0, .null, []),
  (306, .aload_n 0, 307, 0, 0, 0, 0, .null, []),
  (307, .iload_n 3, 308, 0, 0, 0, 0, .null, [])]
def cd0_3 : List En := [(308, .iconst 2, 309, 0, 0, 0, 0, .int (nI 2), []),
  (309, .iadd, 310, 0, 0, 0, 0, .null, []),
  (310, .iaload, 311, 0, 0, 0, 0, .null, []),
  (311, .invokevirtual 41, 314, 8, 0, 16, 503, .retAddr 3, []),
  (314, .aload_n 2, 315, 0, 0, 0, 0, .null, []),
  (315, .aload_n 0, 316, 0, 0, 0, 0, .null, []),
  (316, .iload_n 3, 317, 0, 0, 0, 0, .null, []),
  (317, .iconst 1, 318, 0, 0, 0, 0, .int (nI 1), []),
  (318, .iadd, 319, 0, 0, 0, 0, .null, []),
  (319, .iaload, 320, 0, 0, 0, 0, .null, []),
  (320, .aload_n 0, 321, 0, 0, 0, 0, .null, []),
  (321, .iload_n 3, 322, 0, 0, 0, 0, .null, []),
  (322, .iconst 2, 323, 0, 0, 0, 0, .int (nI 2), []),
  (323, .iadd, 324, 0, 0, 0, 0, .null, []),
  (324, .iaload, 325, 0, 0, 0, 0, .null, []),
  (325, .invokevirtual 45, 328, 132, 0, 17, 909, .retAddr 3, []),
  (328, .if_icmp .eq 350, 331, 678, 0, 0, 0, .null, []),
  (331, .iconst 0, 332, 0, 0, 0, 0, .int (nI 0), []),
  (332, .ireturn, 333, 0, 0, 0, 0, .int 1, []),
  (333, .aload_n 1, 334, 0, 0, 0, 0, .null, []),
  (334, .aload_n 0, 335, 0, 0, 0, 0, .null, []),
  (335, .iload_n 3, 336, 0, 0, 0, 0, .null, []),
  (336, .iconst 1, 337, 0, 0, 0, 0, .int (nI 1), []),
  (337, .iadd, 338, 0, 0, 0, 0, .null, []),
  (338, .iaload, 339, 0, 0, 0, 0, .null, []),
  (339, .aload_n 0, 340, 0, 0, 0, 0, .null, []),
  (340, .iload_n 3, 341, 0, 0, 0, 0, .null, []),
  (341, .iconst 2, 342, 0, 0, 0, 0, .int (nI 2), []),
  (342, .iadd, 343, 0, 0, 0, 0, .null, []),
  (343, .iaload, 344, 0, 0, 0, 0, .null, []),
  (344, .invokevirtual 46, 347, 9, 0, 16, 515, .retAddr 3, []),
  (347, .aload_n 2, 348, 0, 0, 0, 0, .null, []),
  (348, .aload_n 0, 349, 0, 0, 0, 0, .null, []),
  (349, .iload_n 3, 350, 0, 0, 0, 0, .null, []),
  (350, .iconst 1, 351, 0, 0, 0, 0, .int (nI 1), []),
  (351, .iadd, 352, 0, 0, 0, 0, .null, []),
  (352, .iaload, 353, 0, 0, 0, 0, .null, []),
  (353, .aload_n 0, 354, 0, 0, 0, 0, .null, []),
  (354, .iload_n 3, 355, 0, 0, 0, 0, .null, []),
  (355, .iconst 2, 356, 0, 0, 0, 0, .int (nI 2), []),
  (356, .iadd, 357, 0, 0, 0, 0, .null, []),
  (357, .iaload, 358, 0, 0, 0, 0, .null, []),
  (358, .invokevirtual 49, 361, 134, 0, 17, 920, .retAddr 3, []),
  (361, .if_icmp .eq 317, 364, 678, 0, 0, 0, .null, []),
  (364, .iconst 0, 365, 0, 0, 0, 0, .int (nI 0), []),
  (365, .ireturn, 366, 0, 0, 0, 0, .int 1, []),
  (366, .aload_n 1, 367, 0, 0, 0, 0, .null, []),
  (367, .aload_n 0, 368, 0, 0, 0, 0, .null, []),
  (368, .iload_n 3, 369, 0, 0, 0, 0, .null, []),
  (369, .iconst 1, 370, 0, 0, 0, 0, .int (nI 1), [])]
def cd0_4 : List En := [(370, .iadd, 371, 0, 0, 0, 0, .null, []),
  (371, .iaload, 372, 0, 0, 0, 0, .null, []),
  (372, .aload_n 0, 373, 0, 0, 0, 0, .null, []),
  (373, .iload_n 3, 374, 0, 0, 0, 0, .null, []),
  (374, .iconst 2, 375, 0, 0, 0, 0, .int (nI 2), []),
  (375, .iadd, 376, 0, 0, 0, 0, .null, []),
  (376, .iaload, 377, 0, 0, 0, 0, .null, []),
  (377, .invokevirtual 50, 380, 10, 0, 16, 523, .retAddr 3, []),
  (380, .aload_n 2, 381, 0, 0, 0, 0, .null, []),
  (381, .aload_n 0, 382, 0, 0, 0, 0, .null, []),
  (382, .iload_n 3, 383, 0, 0, 0, 0, .null, []),
  (383, .iconst 1, 384, 0, 0, 0, 0, .int (nI 1), []),
  (384, .iadd, 385, 0, 0, 0, 0, .null, []),
  (385, .iaload, 386, 0, 0, 0, 0, .null, []),
  (386, .aload_n 0, 387, 0, 0, 0, 0, .null, []),
  (387, .iload_n 3, 388, 0, 0, 0, 0, .null, []),
  (388, .iconst 2, 389, 0, 0, 0, 0, .int (nI 2), []),
  (389, .iadd, 390, 0, 0, 0, 0, .null, []),
  (390, .iaload, 391, 0, 0, 0, 0, .null, []),
  (391, .invokevirtual 53, 394, 136, 0, 17, 928, .retAddr 3, []),
  (394, .if_icmp .eq 284, 397, 678, 0, 0, 0, .null, []),
  (397, .iconst 0, 398, 0, 0, 0, 0, .int (nI 0), []),
  (398, .ireturn, 399, 0, 0, 0, 0, .int 1, []),
  (399, .aload_n 1, 400, 0, 0, 0, 0, .null, []),
  (400, .aload_n 0, 401, 0, 0, 0, 0, .null, []),
  (401, .iload_n 3, 402, 0, 0, 0, 0, .null, []),
  (402, .iconst 1, 403, 0, 0, 0, 0, .int (nI 1), []),
  (403, .iadd, 404, 0, 0, 0, 0, .null, []),
  (404, .iaload, 405, 0, 0, 0, 0, .null, []),
  (405, .invokevirtual 54, 408, 11, 0, 16, 550, .retAddr 2, []),
  (408, .aload_n 2, 409, 0, 0, 0, 0, .null, []),
  (409, .aload_n 0, 410, 0, 0, 0, 0, .null, []),
  (410, .iload_n 3, 411, 0, 0, 0, 0, .null, []),
  (411, .iconst 1, 412, 0, 0, 0, 0, .int (nI 1), []),
  (412, .iadd, 413, 0, 0, 0, 0, .null, []),
  (413, .iaload, 414, 0, 0, 0, 0, .null, []),
  (414, .invokevirtual 57, 417, 137, 0, 17, 944, .retAddr 2, []),
  (417, .if_icmp .eq 261, 420, 678, 0, 0, 0, .null, []),
  (420, .iconst 0, 421, 0, 0, 0, 0, .int (nI 0), []),
  (421, .ireturn, 422, 0, 0, 0, 0, .int 1, []),
  (422, .aload_n 1, 423, 0, 0, 0, 0, .null, []),
  (423, .aload_n 0, 424, 0, 0, 0, 0, .null, []),
  (424, .iload_n 3, 425, 0, 0, 0, 0, .null, []),
  (425, .iconst 1, 426, 0, 0, 0, 0, .int (nI 1), []),
  (426, .iadd, 427, 0, 0, 0, 0, .null, []),
  (427, .iaload, 428, 0, 0, 0, 0, .null, []),
  (428, .invokevirtual 58, 431, 12, 0, 16, 556, .retAddr 2, []),
  (431, .aload_n 2, 432, 0, 0, 0, 0, .null, []),
  (432, .aload_n 0, 433, 0, 0, 0, 0, .null, []),
  (433, .iload_n 3, 434, 0, 0, 0, 0, .null, [])]
def cd0_5 : List En := [(434, .iconst 1, 435, 0, 0, 0, 0, .int (nI 1), []),
  (435, .iadd, 436, 0, 0, 0, 0, .null, []),
  (436, .iaload, 437, 0, 0, 0, 0, .null, []),
  (437, .invokevirtual 61, 440, 138, 0, 17, 948, .retAddr 2, []),
  (440, .if_icmp .eq 238, 443, 678, 0, 0, 0, .null, []),
  (443, .iconst 0, 444, 0, 0, 0, 0, .int (nI 0), []),
  (444, .ireturn, 445, 0, 0, 0, 0, .int 1, []),
  (445, .aload_n 1, 446, 0, 0, 0, 0, .null, []),
  (446, .aload_n 0, 447, 0, 0, 0, 0, .null, []),
  (447, .iload_n 3, 448, 0, 0, 0, 0, .null, []),
  (448, .iconst 1, 449, 0, 0, 0, 0, .int (nI 1), []),
  (449, .iadd, 450, 0, 0, 0, 0, .null, []),
  (450, .iaload, 451, 0, 0, 0, 0, .null, []),
  (451, .aload_n 0, 452, 0, 0, 0, 0, .null, []),
  (452, .iload_n 3, 453, 0, 0, 0, 0, .null, []),
  (453, .iconst 2, 454, 0, 0, 0, 0, .int (nI 2), []),
  (454, .iadd, 455, 0, 0, 0, 0, .null, []),
  (455, .iaload, 456, 0, 0, 0, 0, .null, []),
  (456, .invokevirtual 62, 459, 13, 1, 16, 561, .retAddr 3, []),
  (459, .aload_n 2, 460, 0, 0, 0, 0, .null, []),
  (460, .aload_n 0, 461, 0, 0, 0, 0, .null, []),
  (461, .iload_n 3, 462, 0, 0, 0, 0, .null, []),
  (462, .iconst 1, 463, 0, 0, 0, 0, .int (nI 1), []),
  (463, .iadd, 464, 0, 0, 0, 0, .null, []),
  (464, .iaload, 465, 0, 0, 0, 0, .null, []),
  (465, .aload_n 0, 466, 0, 0, 0, 0, .null, []),
  (466, .iload_n 3, 467, 0, 0, 0, 0, .null, []),
  (467, .iconst 2, 468, 0, 0, 0, 0, .int (nI 2), []),
  (468, .iadd, 469, 0, 0, 0, 0, .null, []),
  (469, .iaload, 470, 0, 0, 0, 0, .null, []),
  (470, .invokevirtual 65, 473, 139, 2, 17, 952, .retAddr 3, []),
  (473, .if_icmp .eq 205, 476, 678, 0, 0, 0, .null, []),
  (476, .iconst 0, 477, 0, 0, 0, 0, .int (nI 0), []),
  (477, .ireturn, 478, 0, 0, 0, 0, .int 1, []),
  (478, .aload_n 1, 479, 0, 0, 0, 0, .null, []),
  (479, .aload_n 0, 480, 0, 0, 0, 0, .null, []),
  (480, .iload_n 3, 481, 0, 0, 0, 0, .null, []),
  (481, .iconst 1, 482, 0, 0, 0, 0, .int (nI 1), []),
  (482, .iadd, 483, 0, 0, 0, 0, .null, []),
  (483, .iaload, 484, 0, 0, 0, 0, .null, []),
  (484, .invokevirtual 66, 487, 14, 0, 16, 575, .retAddr 2, []),
  (487, .aload_n 2, 488, 0, 0, 0, 0, .null, []),
  (488, .aload_n 0, 489, 0, 0, 0, 0, .null, []),
  (489, .iload_n 3, 490, 0, 0, 0, 0, .null, []),
  (490, .iconst 1, 491, 0, 0, 0, 0, .int (nI 1), []),
  (491, .iadd, 492, 0, 0, 0, 0, .null, []),
  (492, .iaload, 493, 0, 0, 0, 0, .null, []),
  (493, .invokevirtual 69, 496, 142, 2, 17, 966, .retAddr 2, []),
  (496, .if_icmp .eq 182, 499, 678, 0, 0, 0, .null, []),
  (499, .iconst 0, 500, 0, 0, 0, 0, .int (nI 0), [])]
def cd0_6 : List En := [(500, .ireturn, 501, 0, 0, 0, 0, .int 1, []),
  (501, .aload_n 1, 502, 0, 0, 0, 0, .null, []),
  (502, .invokevirtual 70, 505, 15, 1, 16, 599, .retAddr 1, []),
  (505, .aload_n 2, 506, 0, 0, 0, 0, .null, []),
  (506, .invokevirtual 73, 509, 143, 1, 17, 978, .retAddr 1, []),
  (509, .if_icmp .eq 169, 512, 678, 0, 0, 0, .null, []),
  (512, .iconst 0, 513, 0, 0, 0, 0, .int (nI 0), []),
  (513, .ireturn, 514, 0, 0, 0, 0, .int 1, []),
  (514, .aload_n 1, 515, 0, 0, 0, 0, .null, []),
  (515, .aload_n 0, 516, 0, 0, 0, 0, .null, []),
  (516, .iload_n 3, 517, 0, 0, 0, 0, .null, []),
  (517, .iconst 1, 518, 0, 0, 0, 0, .int (nI 1), []),
  (518, .iadd, 519, 0, 0, 0, 0, .null, []),
  (519, .iaload, 520, 0, 0, 0, 0, .null, []),
  (520, .invokevirtual 74, 523, 16, 1, 16, 603, .retAddr 2, []),
  (523, .aload_n 2, 524, 0, 0, 0, 0, .null, []),
  (524, .aload_n 0, 525, 0, 0, 0, 0, .null, []),
  (525, .iload_n 3, 526, 0, 0, 0, 0, .null, []),
  (526, .iconst 1, 527, 0, 0, 0, 0, .int (nI 1), []),
  (527, .iadd, 528, 0, 0, 0, 0, .null, []),
  (528, .iaload, 529, 0, 0, 0, 0, .null, []),
  (529, .invokevirtual 77, 532, 144, 0, 17, 982, .retAddr 2, []),
  (532, .if_icmp .eq 146, 535, 678, 0, 0, 0, .null, []),
  (535, .iconst 0, 536, 0, 0, 0, 0, .int (nI 0), []),
  (536, .ireturn, 537, 0, 0, 0, 0, .int 1, []),
  (537, .aload_n 1, 538, 0, 0, 0, 0, .null, []),
  (538, .aload_n 0, 539, 0, 0, 0, 0, .null, []),
  (539, .iload_n 3, 540, 0, 0, 0, 0, .null, []),
  (540, .iconst 1, 541, 0, 0, 0, 0, .int (nI 1), []),
  (541, .iadd, 542, 0, 0, 0, 0, .null, []),
  (542, .iaload, 543, 0, 0, 0, 0, .null, []),
  (543, .aload_n 0, 544, 0, 0, 0, 0, .null, []),
  (544, .iload_n 3, 545, 0, 0, 0, 0, .null, []),
  (545, .iconst 2, 546, 0, 0, 0, 0, .int (nI 2), []),
  (546, .iadd, 547, 0, 0, 0, 0, .null, []),
  (547, .iaload, 548, 0, 0, 0, 0, .null, []),
  (548, .invokevirtual 78, 551, 17, 1, 16, 609, .retAddr 3, []),
  (551, .aload_n 2, 552, 0, 0, 0, 0, .null, []),
  (552, .aload_n 0, 553, 0, 0, 0, 0, .null, []),
  (553, .iload_n 3, 554, 0, 0, 0, 0, .null, []),
  (554, .iconst 1, 555, 0, 0, 0, 0, .int (nI 1), []),
  (555, .iadd, 556, 0, 0, 0, 0, .null, []),
  (556, .iaload, 557, 0, 0, 0, 0, .null, []),
  (557, .aload_n 0, 558, 0, 0, 0, 0, .null, []),
  (558, .iload_n 3, 559, 0, 0, 0, 0, .null, []),
  (559, .iconst 2, 560, 0, 0, 0, 0, .int (nI 2), []),
  (560, .iadd, 561, 0, 0, 0, 0, .null, []),
  (561, .iaload, 562, 0, 0, 0, 0, .null, []),
  (562, .invokevirtual 81, 565, 145, 1, 17, 986, .retAddr 3, []),
  (565, .if_icmp .eq 113, 568, 678, 0, 0, 0, .null, [])]
def cd0_7 : List En := [(568, .iconst 0, 569, 0, 0, 0, 0, .int (nI 0), []),
  (569, .ireturn, 570, 0, 0, 0, 0, .int 1, []),
  (570, .aload_n 1, 571, 0, 0, 0, 0, .null, []),
  (571, .aload_n 0, 572, 0, 0, 0, 0, .null, []),
  (572, .iload_n 3, 573, 0, 0, 0, 0, .null, []),
  (573, .iconst 1, 574, 0, 0, 0, 0, .int (nI 1), []),
  (574, .iadd, 575, 0, 0, 0, 0, .null, []),
  (575, .iaload, 576, 0, 0, 0, 0, .null, []),
  (576, .invokevirtual 82, 579, 18, 0, 16, 615, .retAddr 2, []),
  (579, .aload_n 2, 580, 0, 0, 0, 0, .null, []),
  (580, .aload_n 0, 581, 0, 0, 0, 0, .null, []),
  (581, .iload_n 3, 582, 0, 0, 0, 0, .null, []),
  (582, .iconst 1, 583, 0, 0, 0, 0, .int (nI 1), []),
  (583, .iadd, 584, 0, 0, 0, 0, .null, []),
  (584, .iaload, 585, 0, 0, 0, 0, .null, []),
  (585, .invokevirtual 85, 588, 147, 0, 17, 990, .retAddr 2, []),
  (588, .if_icmp .eq 90, 591, 678, 0, 0, 0, .null, []),
  (591, .iconst 0, 592, 0, 0, 0, 0, .int (nI 0), []),
  (592, .ireturn, 593, 0, 0, 0, 0, .int 1, []),
  (593, .aload_n 1, 594, 0, 0, 0, 0, .null, []),
  (594, .invokevirtual 86, 597, 19, 0, 16, 625, .retAddr 1, []),
  (597, .aload_n 2, 598, 0, 0, 0, 0, .null, []),
  (598, .invokevirtual 89, 601, 148, 1, 17, 998, .retAddr 1, []),
  (601, .if_icmp .eq 77, 604, 678, 0, 0, 0, .null, []),
  (604, .iconst 0, 605, 0, 0, 0, 0, .int (nI 0), []),
  (605, .ireturn, 606, 0, 0, 0, 0, .int 1, []),
  (606, .aload_n 1, 607, 0, 0, 0, 0, .null, []),
  (607, .aload_n 0, 608, 0, 0, 0, 0, .null, []),
  (608, .iload_n 3, 609, 0, 0, 0, 0, .null, []),
  (609, .iconst 1, 610, 0, 0, 0, 0, .int (nI 1), []),
  (610, .iadd, 611, 0, 0, 0, 0, .null, []),
  (611, .iaload, 612, 0, 0, 0, 0, .null, []),
  (612, .invokevirtual 90, 615, 20, 0, 16, 634, .retAddr 2, []),
  (615, .aload_n 2, 616, 0, 0, 0, 0, .null, []),
  (616, .aload_n 0, 617, 0, 0, 0, 0, .null, []),
  (617, .iload_n 3, 618, 0, 0, 0, 0, .null, []),
  (618, .iconst 1, 619, 0, 0, 0, 0, .int (nI 1), []),
  (619, .iadd, 620, 0, 0, 0, 0, .null, []),
  (620, .iaload, 621, 0, 0, 0, 0, .null, []),
  (621, .invokevirtual 93, 624, 149, 0, 17, 1002, .retAddr 2, []),
  (624, .if_icmp .eq 54, 627, 678, 0, 0, 0, .null, []),
  (627, .iconst 0, 628, 0, 0, 0, 0, .int (nI 0), []),
  (628, .ireturn, 629, 0, 0, 0, 0, .int 1, []),
  (629, .aload_n 1, 630, 0, 0, 0, 0, .null, []),
  (630, .invokevirtual 94, 633, 21, 0, 16, 645, .retAddr 1, []),
  (633, .aload_n 2, 634, 0, 0, 0, 0, .null, []),
  (634, .invokevirtual 97, 637, 150, 1, 17, 1006, .retAddr 1, []),
  (637, .if_icmp .eq 41, 640, 678, 0, 0, 0, .null, []),
  (640, .iconst 0, 641, 0, 0, 0, 0, .int (nI 0), []),
  (641, .ireturn, 642, 0, 0, 0, 0, .int 1, [])]
def cd0_8 : List En := [(642, .aload_n 1, 643, 0, 0, 0, 0, .null, []),
  (643, .aload_n 0, 644, 0, 0, 0, 0, .null, []),
  (644, .iload_n 3, 645, 0, 0, 0, 0, .null, []),
  (645, .iconst 1, 646, 0, 0, 0, 0, .int (nI 1), []),
  (646, .iadd, 647, 0, 0, 0, 0, .null, []),
  (647, .iaload, 648, 0, 0, 0, 0, .null, []),
  (648, .invokevirtual 98, 651, 22, 0, 16, 653, .retAddr 2, []),
  (651, .aload_n 2, 652, 0, 0, 0, 0, .null, []),
  (652, .aload_n 0, 653, 0, 0, 0, 0, .null, []),
  (653, .iload_n 3, 654, 0, 0, 0, 0, .null, []),
  (654, .iconst 1, 655, 0, 0, 0, 0, .int (nI 1), []),
  (655, .iadd, 656, 0, 0, 0, 0, .null, []),
  (656, .iaload, 657, 0, 0, 0, 0, .null, []),
  (657, .invokevirtual 101, 660, 158, 1, 17, 1010, .retAddr 2, []),
  (660, .if_icmp .eq 18, 663, 678, 0, 0, 0, .null, []),
  (663, .iconst 0, 664, 0, 0, 0, 0, .int (nI 0), []),
  (664, .ireturn, 665, 0, 0, 0, 0, .int 1, []),
  (665, .aload_n 1, 666, 0, 0, 0, 0, .null, []),
  (666, .invokevirtual 102, 669, 23, 1, 16, 694, .retAddr 1, []),
  (669, .aload_n 2, 670, 0, 0, 0, 0, .null, []),
  (670, .invokevirtual 105, 673, 159, 0, 17, 1041, .retAddr 1, []),
  (673, .if_icmp .eq 5, 676, 678, 0, 0, 0, .null, []),
  (676, .iconst 0, 677, 0, 0, 0, 0, .int (nI 0), []),
  (677, .ireturn, 678, 0, 0, 0, 0, .int 1, []),
  (678, .iinc 3 4, 681, 0, 0, 0, 0, .null, []),
  (681, .goto (-663), 684, 18, 0, 0, 0, .null, []),
  (684, .iconst 1, 685, 0, 0, 0, 0, .int (nI 1), []),
  (685, .ireturn, 686, 0, 0, 0, 0, .int 1, [])]
def cd0 : List En := cd0_0 ++ (cd0_1 ++ (cd0_2 ++ (cd0_3 ++ (cd0_4 ++ (cd0_5 ++ (cd0_6 ++ (cd0_7 ++ (cd0_8))))))))
def cd1 : List En := [(0, .aload_n 0, 1, 0, 0, 0, 0, .null, []),
  (1, .invokespecial 1, 4, 900, 0, 0, 67, .null, []),
  (4, .aload_n 0, 5, 0, 0, 0, 0, .null, []),
  (5, .new 7, 8, 11, 17, 0, 70, .null, []),
  (8, .dup, 9, 0, 0, 0, 0, .null, []),
  (9, .invokespecial 9, 12, 36, 0, 11, 72, .retAddr 1, []),
  (12, .putfield 10, 15, 16, 0, 0, 276, .null, []),
  (15, .aload_n 0, 16, 0, 0, 0, 0, .null, []),
  (16, .new 7, 19, 11, 17, 0, 70, .null, []),
  (19, .dup, 20, 0, 0, 0, 0, .null, []),
  (20, .invokespecial 9, 23, 36, 0, 11, 72, .retAddr 1, []),
  (23, .putfield 16, 26, 16, 1, 0, 277, .null, []),
  (26, .aload_n 0, 27, 0, 0, 0, 0, .null, []),
  (27, .new 19, 30, 12, 2, 0, 188, .null, []),
  (30, .dup, 31, 0, 0, 0, 0, .null, []),
  (31, .invokespecial 21, 34, 63, 1, 12, 190, .retAddr 1, []),
  (34, .putfield 22, 37, 16, 2, 0, 278, .null, []),
  (37, .aload_n 0, 38, 0, 0, 0, 0, .null, []),
  (38, .new 26, 41, 10, 3, 0, 205, .null, []),
  (41, .dup, 42, 0, 0, 0, 0, .null, []),
  (42, .invokespecial 28, 45, 29, 0, 10, 207, .retAddr 1, []),
  (45, .putfield 29, 48, 16, 3, 0, 279, .null, []),
  (48, .aload_n 0, 49, 0, 0, 0, 0, .null, []),
  (49, .new 33, 52, 14, 2, 0, 224, .null, []),
  (52, .dup, 53, 0, 0, 0, 0, .null, []),
  (53, .invokespecial 35, 56, 79, 0, 14, 226, .retAddr 1, []),
  (56, .putfield 36, 59, 16, 4, 0, 280, .null, []),
  (59, .aload_n 0, 60, 0, 0, 0, 0, .null, []),
  (60, .new 40, 63, 13, 8, 0, 240, .null, []),
  (63, .dup, 64, 0, 0, 0, 0, .null, []),
  (64, .invokespecial 42, 67, 68, 0, 13, 242, .retAddr 1, []),
  (67, .putfield 43, 70, 16, 5, 0, 281, .null, []),
  (70, .return_, 71, 0, 0, 0, 0, .null, [])]
def cd2 : List En := [(0, .aload_n 0, 1, 0, 0, 0, 0, .null, []),
  (1, .getfield 22, 4, 16, 2, 0, 278, .null, []),
  (4, .aload_n 0, 5, 0, 0, 0, 0, .null, []),
  (5, .getfield 10, 8, 16, 0, 0, 276, .null, []),
  (8, .invokevirtual 47, 11, 64, 0, 12, 299, .retAddr 2, []),
  (11, .aload_n 0, 12, 0, 0, 0, 0, .null, []),
  (12, .getfield 22, 15, 16, 2, 0, 278, .null, []),
  (15, .aload_n 0, 16, 0, 0, 0, 0, .null, []),
  (16, .getfield 10, 19, 16, 0, 0, 276, .null, []),
  (19, .invokevirtual 51, 22, 52, 0, 11, 310, .retAddr 1, []),
  (22, .invokevirtual 55, 25, 65, 0, 12, 315, .retAddr 2, []),
  (25, .ireturn, 26, 0, 0, 0, 0, .int 0, [])]
def cd3 : List En := [(0, .aload_n 0, 1, 0, 0, 0, 0, .null, []),
  (1, .getfield 22, 4, 16, 2, 0, 278, .null, []),
  (4, .aload_n 0, 5, 0, 0, 0, 0, .null, []),
  (5, .getfield 10, 8, 16, 0, 0, 276, .null, []),
  (8, .invokevirtual 47, 11, 64, 0, 12, 299, .retAddr 2, []),
  (11, .aload_n 0, 12, 0, 0, 0, 0, .null, []),
  (12, .getfield 22, 15, 16, 2, 0, 278, .null, []),
  (15, .aload_n 0, 16, 0, 0, 0, 0, .null, []),
  (16, .getfield 10, 19, 16, 0, 0, 276, .null, []),
  (19, .iload_n 1, 20, 0, 0, 0, 0, .null, []),
  (20, .iload_n 2, 21, 0, 0, 0, 0, .null, []),
  (21, .iload_n 3, 22, 0, 0, 0, 0, .null, []),
  (22, .invokevirtual 59, 25, 53, 1, 11, 331, .retAddr 4, []),
  (25, .invokevirtual 55, 28, 65, 0, 12, 315, .retAddr 2, []),
  (28, .ireturn, 29, 0, 0, 0, 0, .int 0, [])]
def cd4 : List En := [(0, .aload_n 0, 1, 0, 0, 0, 0, .null, []),
  (1, .getfield 22, 4, 16, 2, 0, 278, .null, []),
  (4, .aload_n 0, 5, 0, 0, 0, 0, .null, []),
  (5, .getfield 10, 8, 16, 0, 0, 276, .null, []),
  (8, .invokevirtual 47, 11, 64, 0, 12, 299, .retAddr 2, []),
  (11, .aload_n 0, 12, 0, 0, 0, 0, .null, []),
  (12, .getfield 22, 15, 16, 2, 0, 278, .null, []),
  (15, .aload_n 0, 16, 0, 0, 0, 0, .null, []),
  (16, .getfield 10, 19, 16, 0, 0, 276, .null, []),
  (19, .iload_n 1, 20, 0, 0, 0, 0, .null, []),
  (20, .iload_n 2, 21, 0, 0, 0, 0, .null, []),
  (21, .invokevirtual 63, 24, 54, 0, 11, 351, .retAddr 3, []),
  (24, .invokevirtual 55, 27, 65, 0, 12, 315, .retAddr 2, []),
  (27, .ireturn, 28, 0, 0, 0, 0, .int 0, [])]
def cd5 : List En := [(0, .aload_n 0, 1, 0, 0, 0, 0, .null, []),
  (1, .getfield 22, 4, 16, 2, 0, 278, .null, []),
  (4, .aload_n 0, 5, 0, 0, 0, 0, .null, []),
  (5, .getfield 10, 8, 16, 0, 0, 276, .null, []),
  (8, .invokevirtual 47, 11, 64, 0, 12, 299, .retAddr 2, []),
  (11, .aload_n 0, 12, 0, 0, 0, 0, .null, []),
  (12, .getfield 22, 15, 16, 2, 0, 278, .null, []),
  (15, .aload_n 0, 16, 0, 0, 0, 0, .null, []),
  (16, .getfield 10, 19, 16, 0, 0, 276, .null, []),
  (19, .iload_n 1, 20, 0, 0, 0, 0, .null, []),
  (20, .invokevirtual 67, 23, 55, 1, 11, 372, .retAddr 2, []),
  (23, .invokevirtual 55, 26, 65, 0, 12, 315, .retAddr 2, []),
  (26, .ireturn, 27, 0, 0, 0, 0, .int 0, [])]
def cd6 : List En := [(0, .aload_n 0, 1, 0, 0, 0, 0, .null, []),
  (1, .getfield 22, 4, 16, 2, 0, 278, .null, []),
  (4, .aload_n 0, 5, 0, 0, 0, 0, .null, []),
  (5, .getfield 10, 8, 16, 0, 0, 276, .null, []),
  (8, .invokevirtual 47, 11, 64, 0, 12, 299, .retAddr 2, []),
  (11, .aload_n 0, 12, 0, 0, 0, 0, .null, []),
  (12, .getfield 22, 15, 16, 2, 0, 278, .null, []),
  (15, .aload_n 0, 16, 0, 0, 0, 0, .null, []),
  (16, .getfield 29, 19, 16, 3, 0, 279, .null, []),
  (19, .aload_n 0, 20, 0, 0, 0, 0, .null, []),
  (20, .getfield 10, 23, 16, 0, 0, 276, .null, []),
  (23, .iload_n 1, 24, 0, 0, 0, 0, .null, []),
  (24, .invokevirtual 70, 27, 30, 5, 10, 384, .retAddr 3, []),
  (27, .invokevirtual 55, 30, 65, 0, 12, 315, .retAddr 2, []),
  (30, .ireturn, 31, 0, 0, 0, 0, .int 0, [])]
def cd7 : List En := [(0, .aload_n 0, 1, 0, 0, 0, 0, .null, []),
  (1, .getfield 22, 4, 16, 2, 0, 278, .null, []),
  (4, .aload_n 0, 5, 0, 0, 0, 0, .null, []),
  (5, .getfield 10, 8, 16, 0, 0, 276, .null, []),
  (8, .invokevirtual 47, 11, 64, 0, 12, 299, .retAddr 2, []),
  (11, .aload_n 0, 12, 0, 0, 0, 0, .null, []),
  (12, .getfield 22, 15, 16, 2, 0, 278, .null, []),
  (15, .aload_n 0, 16, 0, 0, 0, 0, .null, []),
  (16, .getfield 10, 19, 16, 0, 0, 276, .null, []),
  (19, .invokevirtual 74, 22, 56, 2, 11, 495, .retAddr 1, []),
  (22, .invokevirtual 55, 25, 65, 0, 12, 315, .retAddr 2, []),
  (25, .ireturn, 26, 0, 0, 0, 0, .int 0, [])]
def cd8 : List En := [(0, .aload_n 0, 1, 0, 0, 0, 0, .null, []),
  (1, .getfield 22, 4, 16, 2, 0, 278, .null, []),
  (4, .aload_n 0, 5, 0, 0, 0, 0, .null, []),
  (5, .getfield 10, 8, 16, 0, 0, 276, .null, []),
  (8, .invokevirtual 47, 11, 64, 0, 12, 299, .retAddr 2, []),
  (11, .aload_n 0, 12, 0, 0, 0, 0, .null, []),
  (12, .getfield 22, 15, 16, 2, 0, 278, .null, []),
  (15, .aload_n 0, 16, 0, 0, 0, 0, .null, []),
  (16, .getfield 10, 19, 16, 0, 0, 276, .null, []),
  (19, .iload_n 1, 20, 0, 0, 0, 0, .null, []),
  (20, .iload_n 2, 21, 0, 0, 0, 0, .null, []),
  (21, .invokevirtual 77, 24, 57, 1, 11, 507, .retAddr 3, []),
  (24, .invokevirtual 55, 27, 65, 0, 12, 315, .retAddr 2, []),
  (27, .ireturn, 28, 0, 0, 0, 0, .int 0, [])]
def cd9_0 : List En := [(0, .aload_n 0, 1, 0, 0, 0, 0, .null, []),
  (1, .getfield 10, 4, 16, 0, 0, 276, .null, []),
  (4, .iload_n 1, 5, 0, 0, 0, 0, .null, []),
  (5, .invokevirtual 81, 8, 39, 0, 11, 519, .retAddr 2, []),
  (8, .ifCond .ne 6, 11, 14, 0, 0, 0, .null, []),
  (11, .ldc 85, 13, 0, 0, 0, 322, .int ((-1000000001)), []),
  (13, .ireturn, 14, 0, 0, 0, 0, .int 0, []),
  (14, .iload_n 2, 15, 0, 0, 0, 0, .null, []),
  (15, .tableswitch 141 0 7 #[45, 55, 65, 75, 85, 102, 111, 121], 60, 156, 0, 0, 0, .null, [(nI 0, 60), (nI 1, 70), (nI 2, 80), (nI 3, 90), (nI 4, 100), (nI 5, 117), (nI 6, 126), (nI 7, 136)]),
  (60, .aload_n 0, 61, 0, 0, 0, 0, .null, []),
  (61, .getfield 10, 64, 16, 0, 0, 276, .null, []),
  (64, .getfield 86, 67, 11, 4, 1, 123, .null, []),
  (67, .iload_n 1, 68, 0, 0, 0, 0, .null, []),
  (68, .iaload, 69, 0, 0, 0, 0, .null, []),
  (69, .ireturn, 70, 0, 0, 0, 0, .int 0, []),
  (70, .aload_n 0, 71, 0, 0, 0, 0, .null, []),
  (71, .getfield 10, 74, 16, 0, 0, 276, .null, []),
  (74, .getfield 90, 77, 11, 5, 1, 126, .null, []),
  (77, .iload_n 1, 78, 0, 0, 0, 0, .null, []),
  (78, .iaload, 79, 0, 0, 0, 0, .null, []),
  (79, .ireturn, 80, 0, 0, 0, 0, .int 0, []),
  (80, .aload_n 0, 81, 0, 0, 0, 0, .null, []),
  (81, .getfield 10, 84, 16, 0, 0, 276, .null, []),
  (84, .getfield 93, 87, 11, 6, 1, 129, .null, []),
  (87, .iload_n 1, 88, 0, 0, 0, 0, .null, []),
  (88, .iaload, 89, 0, 0, 0, 0, .null, []),
  (89, .ireturn, 90, 0, 0, 0, 0, .int 0, []),
  (90, .aload_n 0, 91, 0, 0, 0, 0, .null, []),
  (91, .getfield 10, 94, 16, 0, 0, 276, .null, []),
  (94, .getfield 96, 97, 11, 7, 1, 132, .null, []),
  (97, .iload_n 1, 98, 0, 0, 0, 0, .null, []),
  (98, .iaload, 99, 0, 0, 0, 0, .null, []),
  (99, .ireturn, 100, 0, 0, 0, 0, .int 0, []),
  (100, .aload_n 0, 101, 0, 0, 0, 0, .null, []),
  (101, .getfield 10, 104, 16, 0, 0, 276, .null, []),
  (104, .iload_n 1, 105, 0, 0, 0, 0, .null, []),
  (105, .invokevirtual 99, 108, 42, 0, 11, 520, .retAddr 2, []),
  (108, .ifCond .eq 7, 111, 115, 0, 0, 0, .null, []),
  (111, .iconst 1, 112, 0, 0, 0, 0, .int (nI 1), []),
  (112, .goto 4, 115, 116, 0, 0, 0, .null, []),
  (115, .iconst 0, 116, 0, 0, 0, 0, .int (nI 0), []),
  (116, .ireturn, 117, 0, 0, 0, 0, .int 0, []),
  (117, .aload_n 0, 118, 0, 0, 0, 0, .null, []),
  (118, .getfield 10, 121, 16, 0, 0, 276, .null, []),
  (121, .iload_n 1, 122, 0, 0, 0, 0, .null, []),
  (122, .invokevirtual 102, 125, 45, 0, 11, 521, .retAddr 2, []),
  (125, .ireturn, 126, 0, 0, 0, 0, .int 0, []),
  (126, .aload_n 0, 127, 0, 0, 0, 0, .null, []),
  (127, .getfield 10, 130, 16, 0, 0, 276, .null, []),
  (130, .getfield 105, 133, 11, 8, 1, 134, .null, [])]
def cd9_1 : List En := [(133, .iload_n 1, 134, 0, 0, 0, 0, .null, []),
  (134, .iaload, 135, 0, 0, 0, 0, .null, []),
  (135, .ireturn, 136, 0, 0, 0, 0, .int 0, []),
  (136, .aload_n 0, 137, 0, 0, 0, 0, .null, []),
  (137, .getfield 10, 140, 16, 0, 0, 276, .null, []),
  (140, .getfield 108, 143, 11, 15, 1, 150, .null, []),
  (143, .iload_n 1, 144, 0, 0, 0, 0, .null, []),
  (144, .invokevirtual 112, 147, 90, 0, 15, 522, .retAddr 2, []),
  (147, .ifCond .eq 7, 150, 154, 0, 0, 0, .null, []),
  (150, .iconst 1, 151, 0, 0, 0, 0, .int (nI 1), []),
  (151, .goto 4, 154, 155, 0, 0, 0, .null, []),
  (154, .iconst 0, 155, 0, 0, 0, 0, .int (nI 0), []),
  (155, .ireturn, 156, 0, 0, 0, 0, .int 0, []),
  (156, .ldc 85, 158, 0, 0, 0, 322, .int ((-1000000001)), []),
  (158, .ireturn, 159, 0, 0, 0, 0, .int 0, [])]
def cd9 : List En := cd9_0 ++ (cd9_1)
def cd10 : List En := [(0, .aload_n 0, 1, 0, 0, 0, 0, .null, []),
  (1, .getfield 10, 4, 16, 0, 0, 276, .null, []),
  (4, .iload_n 1, 5, 0, 0, 0, 0, .null, []),
  (5, .invokevirtual 117, 8, 38, 0, 11, 527, .retAddr 2, []),
  (8, .ifCond .ne 6, 11, 14, 0, 0, 0, .null, []),
  (11, .ldc 85, 13, 0, 0, 0, 322, .int ((-1000000001)), []),
  (13, .ireturn, 14, 0, 0, 0, 0, .int 0, []),
  (14, .iload_n 2, 15, 0, 0, 0, 0, .null, []),
  (15, .tableswitch 105 0 4 #[33, 42, 52, 62, 75], 48, 120, 0, 0, 0, .null, [(nI 0, 48), (nI 1, 57), (nI 2, 67), (nI 3, 77), (nI 4, 90)]),
  (48, .aload_n 0, 49, 0, 0, 0, 0, .null, []),
  (49, .getfield 10, 52, 16, 0, 0, 276, .null, []),
  (52, .iload_n 1, 53, 0, 0, 0, 0, .null, []),
  (53, .invokevirtual 120, 56, 48, 2, 11, 528, .retAddr 2, []),
  (56, .ireturn, 57, 0, 0, 0, 0, .int 0, []),
  (57, .aload_n 0, 58, 0, 0, 0, 0, .null, []),
  (58, .getfield 10, 61, 16, 0, 0, 276, .null, []),
  (61, .getfield 123, 64, 11, 1, 1, 114, .null, []),
  (64, .iload_n 1, 65, 0, 0, 0, 0, .null, []),
  (65, .iaload, 66, 0, 0, 0, 0, .null, []),
  (66, .ireturn, 67, 0, 0, 0, 0, .int 0, []),
  (67, .aload_n 0, 68, 0, 0, 0, 0, .null, []),
  (68, .getfield 10, 71, 16, 0, 0, 276, .null, []),
  (71, .getfield 126, 74, 11, 2, 1, 116, .null, []),
  (74, .iload_n 1, 75, 0, 0, 0, 0, .null, []),
  (75, .iaload, 76, 0, 0, 0, 0, .null, []),
  (76, .ireturn, 77, 0, 0, 0, 0, .int 0, []),
  (77, .aload_n 0, 78, 0, 0, 0, 0, .null, []),
  (78, .getfield 36, 81, 16, 4, 0, 280, .null, []),
  (81, .aload_n 0, 82, 0, 0, 0, 0, .null, []),
  (82, .getfield 10, 85, 16, 0, 0, 276, .null, []),
  (85, .iload_n 1, 86, 0, 0, 0, 0, .null, []),
  (86, .invokevirtual 129, 89, 80, 2, 14, 533, .retAddr 3, []),
  (89, .ireturn, 90, 0, 0, 0, 0, .int 0, []),
  (90, .aload_n 0, 91, 0, 0, 0, 0, .null, []),
  (91, .getfield 10, 94, 16, 0, 0, 276, .null, []),
  (94, .invokevirtual 132, 97, 41, 0, 11, 548, .retAddr 1, []),
  (97, .ifCond .eq 21, 100, 118, 0, 0, 0, .null, []),
  (100, .aload_n 0, 101, 0, 0, 0, 0, .null, []),
  (101, .getfield 10, 104, 16, 0, 0, 276, .null, []),
  (104, .getfield 108, 107, 11, 15, 1, 150, .null, []),
  (107, .iload_n 1, 108, 0, 0, 0, 0, .null, []),
  (108, .invokevirtual 136, 111, 91, 0, 15, 549, .retAddr 2, []),
  (111, .ifCond .eq 7, 114, 118, 0, 0, 0, .null, []),
  (114, .iconst 1, 115, 0, 0, 0, 0, .int (nI 1), []),
  (115, .goto 4, 118, 119, 0, 0, 0, .null, []),
  (118, .iconst 0, 119, 0, 0, 0, 0, .int (nI 0), []),
  (119, .ireturn, 120, 0, 0, 0, 0, .int 0, []),
  (120, .ldc 85, 122, 0, 0, 0, 322, .int ((-1000000001)), []),
  (122, .ireturn, 123, 0, 0, 0, 0, .int 0, [])]
def cd11 : List En := [(0, .iload_n 1, 1, 0, 0, 0, 0, .null, []),
  (1, .iconst 0, 2, 0, 0, 0, 0, .int (nI 0), []),
  (2, .iconst 3, 3, 0, 0, 0, 0, .int (nI 3), []),
  (3, .invokestatic 139, 6, 24, 0, 0, 554, .retAddr 3, []),
  (6, .ifCond .ne 6, 9, 12, 0, 0, 0, .null, []),
  (9, .ldc 85, 11, 0, 0, 0, 322, .int ((-1000000001)), []),
  (11, .ireturn, 12, 0, 0, 0, 0, .int 0, []),
  (12, .aload_n 0, 13, 0, 0, 0, 0, .null, []),
  (13, .getfield 10, 16, 16, 0, 0, 276, .null, []),
  (16, .invokevirtual 132, 19, 41, 0, 11, 548, .retAddr 1, []),
  (19, .ifCond .ne 6, 22, 25, 0, 0, 0, .null, []),
  (22, .ldc 143, 24, 0, 0, 0, 555, .int ((-1000000004)), []),
  (24, .ireturn, 25, 0, 0, 0, 0, .int 0, []),
  (25, .iload_n 1, 26, 0, 0, 0, 0, .null, []),
  (26, .tableswitch 56 0 2 #[26, 37, 48], 52, 82, 0, 0, 0, .null, [(nI 0, 52), (nI 1, 63), (nI 2, 74)]),
  (52, .aload_n 0, 53, 0, 0, 0, 0, .null, []),
  (53, .getfield 10, 56, 16, 0, 0, 276, .null, []),
  (56, .getfield 108, 59, 11, 15, 1, 150, .null, []),
  (59, .getfield 144, 62, 15, 2, 1, 88, .int 0, []),
  (62, .ireturn, 63, 0, 0, 0, 0, .int 0, []),
  (63, .aload_n 0, 64, 0, 0, 0, 0, .null, []),
  (64, .getfield 10, 67, 16, 0, 0, 276, .null, []),
  (67, .getfield 108, 70, 11, 15, 1, 150, .null, []),
  (70, .getfield 148, 73, 15, 1, 1, 85, .int 0, []),
  (73, .ireturn, 74, 0, 0, 0, 0, .int 0, []),
  (74, .aload_n 0, 75, 0, 0, 0, 0, .null, []),
  (75, .getfield 10, 78, 16, 0, 0, 276, .null, []),
  (78, .getfield 151, 81, 11, 16, 1, 152, .int 0, []),
  (81, .ireturn, 82, 0, 0, 0, 0, .int 0, []),
  (82, .aload_n 0, 83, 0, 0, 0, 0, .null, []),
  (83, .getfield 10, 86, 16, 0, 0, 276, .null, []),
  (86, .getfield 108, 89, 11, 15, 1, 150, .null, []),
  (89, .getfield 154, 92, 15, 3, 1, 91, .int 0, []),
  (92, .ireturn, 93, 0, 0, 0, 0, .int 0, [])]
def cd12 : List En := [(0, .iload_n 1, 1, 0, 0, 0, 0, .null, []),
  (1, .ifCond .ge 6, 4, 7, 0, 0, 0, .null, []),
  (4, .ldc 85, 6, 0, 0, 0, 322, .int ((-1000000001)), []),
  (6, .ireturn, 7, 0, 0, 0, 0, .int 0, []),
  (7, .aload_n 0, 8, 0, 0, 0, 0, .null, []),
  (8, .getfield 10, 11, 16, 0, 0, 276, .null, []),
  (11, .invokevirtual 132, 14, 41, 0, 11, 548, .retAddr 1, []),
  (14, .ifCond .eq 17, 17, 31, 0, 0, 0, .null, []),
  (17, .iload_n 1, 18, 0, 0, 0, 0, .null, []),
  (18, .aload_n 0, 19, 0, 0, 0, 0, .null, []),
  (19, .getfield 10, 22, 16, 0, 0, 276, .null, []),
  (22, .getfield 108, 25, 11, 15, 1, 150, .null, []),
  (25, .getfield 148, 28, 15, 1, 1, 85, .int 0, []),
  (28, .if_icmp .le 6, 31, 34, 0, 0, 0, .null, []),
  (31, .ldc 143, 33, 0, 0, 0, 555, .int ((-1000000004)), []),
  (33, .ireturn, 34, 0, 0, 0, 0, .int 0, []),
  (34, .aload_n 0, 35, 0, 0, 0, 0, .null, []),
  (35, .getfield 10, 38, 16, 0, 0, 276, .null, []),
  (38, .getfield 108, 41, 11, 15, 1, 150, .null, []),
  (41, .iload_n 1, 42, 0, 0, 0, 0, .null, []),
  (42, .invokevirtual 157, 45, 88, 0, 15, 560, .retAddr 2, []),
  (45, .ireturn, 46, 0, 0, 0, 0, .int 0, [])]
def cd13 : List En := [(0, .aload_n 0, 1, 0, 0, 0, 0, .null, []),
  (1, .getfield 10, 4, 16, 0, 0, 276, .null, []),
  (4, .iload_n 1, 5, 0, 0, 0, 0, .null, []),
  (5, .invokevirtual 117, 8, 38, 0, 11, 527, .retAddr 2, []),
  (8, .ifCond .eq 14, 11, 22, 0, 0, 0, .null, []),
  (11, .aload_n 0, 12, 0, 0, 0, 0, .null, []),
  (12, .getfield 10, 15, 16, 0, 0, 276, .null, []),
  (15, .iload_n 2, 16, 0, 0, 0, 0, .null, []),
  (16, .invokevirtual 81, 19, 39, 0, 11, 519, .retAddr 2, []),
  (19, .ifCond .ne 6, 22, 25, 0, 0, 0, .null, []),
  (22, .ldc 85, 24, 0, 0, 0, 322, .int ((-1000000001)), []),
  (24, .ireturn, 25, 0, 0, 0, 0, .int 0, []),
  (25, .aload_n 0, 26, 0, 0, 0, 0, .null, []),
  (26, .getfield 10, 29, 16, 0, 0, 276, .null, []),
  (29, .iload_n 1, 30, 0, 0, 0, 0, .null, []),
  (30, .invokevirtual 160, 33, 49, 2, 11, 565, .retAddr 2, []),
  (33, .istore_n 3, 34, 0, 0, 0, 0, .null, []),
  (34, .aload_n 0, 35, 0, 0, 0, 0, .null, []),
  (35, .getfield 10, 38, 16, 0, 0, 276, .null, []),
  (38, .iload_n 2, 39, 0, 0, 0, 0, .null, []),
  (39, .iload_n 1, 40, 0, 0, 0, 0, .null, []),
  (40, .invokevirtual 163, 43, 46, 0, 11, 570, .retAddr 3, []),
  (43, .iconst (-1), 44, 0, 0, 0, 0, .int ((-1)), []),
  (44, .if_icmp .eq 8, 47, 52, 0, 0, 0, .null, []),
  (47, .iload_n 3, 48, 0, 0, 0, 0, .null, []),
  (48, .iconst 1, 49, 0, 0, 0, 0, .int (nI 1), []),
  (49, .if_icmp .ge 6, 52, 55, 0, 0, 0, .null, []),
  (52, .ldc 143, 54, 0, 0, 0, 555, .int ((-1000000004)), []),
  (54, .ireturn, 55, 0, 0, 0, 0, .int 0, []),
  (55, .aload_n 0, 56, 0, 0, 0, 0, .null, []),
  (56, .getfield 10, 59, 16, 0, 0, 276, .null, []),
  (59, .iload_n 2, 60, 0, 0, 0, 0, .null, []),
  (60, .invokevirtual 102, 63, 45, 0, 11, 521, .retAddr 2, []),
  (63, .i2f, 64, 0, 0, 0, 0, .null, []),
  (64, .iload_n 3, 65, 0, 0, 0, 0, .null, []),
  (65, .i2f, 66, 0, 0, 0, 0, .null, []),
  (66, .fdiv, 67, 0, 0, 0, 0, .null, []),
  (67, .invokestatic 166, 70, 28, 3, 0, 571, .retAddr 1, []),
  (70, .ireturn, 71, 0, 0, 0, 0, .int 0, [])]
def cd14 : List En := [(0, .iload_n 1, 1, 0, 0, 0, 0, .null, []),
  (1, .iconst 0, 2, 0, 0, 0, 0, .int (nI 0), []),
  (2, .iconst 3, 3, 0, 0, 0, 0, .int (nI 3), []),
  (3, .invokestatic 139, 6, 24, 0, 0, 554, .retAddr 3, []),
  (6, .ifCond .ne 6, 9, 12, 0, 0, 0, .null, []),
  (9, .ldc 85, 11, 0, 0, 0, 322, .int ((-1000000001)), []),
  (11, .ireturn, 12, 0, 0, 0, 0, .int 0, []),
  (12, .aload_n 0, 13, 0, 0, 0, 0, .null, []),
  (13, .getfield 10, 16, 16, 0, 0, 276, .null, []),
  (16, .invokevirtual 170, 19, 40, 0, 11, 579, .retAddr 1, []),
  (19, .ifCond .ne 6, 22, 25, 0, 0, 0, .null, []),
  (22, .ldc 173, 24, 0, 0, 0, 580, .int ((-1000000002)), []),
  (24, .ireturn, 25, 0, 0, 0, 0, .int 0, []),
  (25, .aload_n 0, 26, 0, 0, 0, 0, .null, []),
  (26, .getfield 36, 29, 16, 4, 0, 280, .null, []),
  (29, .aload_n 0, 30, 0, 0, 0, 0, .null, []),
  (30, .getfield 10, 33, 16, 0, 0, 276, .null, []),
  (33, .invokevirtual 174, 36, 82, 2, 14, 581, .retAddr 2, []),
  (36, .iload_n 1, 37, 0, 0, 0, 0, .null, []),
  (37, .tableswitch 75 0 2 #[27, 38, 49], 64, 112, 0, 0, 0, .null, [(nI 0, 64), (nI 1, 75), (nI 2, 86)]),
  (64, .aload_n 0, 65, 0, 0, 0, 0, .null, []),
  (65, .getfield 36, 68, 16, 4, 0, 280, .null, []),
  (68, .getfield 177, 71, 14, 1, 1, 234, .null, []),
  (71, .getfield 144, 74, 15, 2, 1, 88, .int 0, []),
  (74, .ireturn, 75, 0, 0, 0, 0, .int 0, []),
  (75, .aload_n 0, 76, 0, 0, 0, 0, .null, []),
  (76, .getfield 36, 79, 16, 4, 0, 280, .null, []),
  (79, .getfield 177, 82, 14, 1, 1, 234, .null, []),
  (82, .getfield 148, 85, 15, 1, 1, 85, .int 0, []),
  (85, .ireturn, 86, 0, 0, 0, 0, .int 0, []),
  (86, .aload_n 0, 87, 0, 0, 0, 0, .null, []),
  (87, .getfield 36, 90, 16, 4, 0, 280, .null, []),
  (90, .getfield 177, 93, 14, 1, 1, 234, .null, []),
  (93, .invokevirtual 180, 96, 89, 0, 15, 598, .retAddr 1, []),
  (96, .aload_n 0, 97, 0, 0, 0, 0, .null, []),
  (97, .getfield 10, 100, 16, 0, 0, 276, .null, []),
  (100, .getfield 183, 103, 11, 10, 1, 139, .int 0, []),
  (103, .if_icmp .ne 7, 106, 110, 0, 0, 0, .null, []),
  (106, .iconst 1, 107, 0, 0, 0, 0, .int (nI 1), []),
  (107, .goto 4, 110, 111, 0, 0, 0, .null, []),
  (110, .iconst 0, 111, 0, 0, 0, 0, .int (nI 0), []),
  (111, .ireturn, 112, 0, 0, 0, 0, .int 0, []),
  (112, .aload_n 0, 113, 0, 0, 0, 0, .null, []),
  (113, .getfield 36, 116, 16, 4, 0, 280, .null, []),
  (116, .getfield 177, 119, 14, 1, 1, 234, .null, []),
  (119, .invokevirtual 180, 122, 89, 0, 15, 598, .retAddr 1, []),
  (122, .ireturn, 123, 0, 0, 0, 0, .int 0, [])]
def cd15 : List En := [(0, .aload_n 0, 1, 0, 0, 0, 0, .null, []),
  (1, .getfield 36, 4, 16, 4, 0, 280, .null, []),
  (4, .aload_n 0, 5, 0, 0, 0, 0, .null, []),
  (5, .getfield 10, 8, 16, 0, 0, 276, .null, []),
  (8, .aload_n 0, 9, 0, 0, 0, 0, .null, []),
  (9, .getfield 10, 12, 16, 0, 0, 276, .null, []),
  (12, .getfield 183, 15, 11, 10, 1, 139, .int 0, []),
  (15, .invokevirtual 129, 18, 80, 2, 14, 533, .retAddr 3, []),
  (18, .istore_n 1, 19, 0, 0, 0, 0, .null, []),
  (19, .aload_n 0, 20, 0, 0, 0, 0, .null, []),
  (20, .getfield 10, 23, 16, 0, 0, 276, .null, []),
  (23, .invokevirtual 132, 26, 41, 0, 11, 548, .retAddr 1, []),
  (26, .ifCond .eq 9, 29, 35, 0, 0, 0, .null, []),
  (29, .iload_n 1, 30, 0, 0, 0, 0, .null, []),
  (30, .ldc 143, 32, 0, 0, 0, 555, .int ((-1000000004)), []),
  (32, .if_icmp .ne 6, 35, 38, 0, 0, 0, .null, []),
  (35, .ldc 143, 37, 0, 0, 0, 555, .int ((-1000000004)), []),
  (37, .ireturn, 38, 0, 0, 0, 0, .int 0, []),
  (38, .aload_n 0, 39, 0, 0, 0, 0, .null, []),
  (39, .getfield 10, 42, 16, 0, 0, 276, .null, []),
  (42, .getfield 108, 45, 11, 15, 1, 150, .null, []),
  (45, .getfield 144, 48, 15, 2, 1, 88, .int 0, []),
  (48, .iload_n 1, 49, 0, 0, 0, 0, .null, []),
  (49, .isub, 50, 0, 0, 0, 0, .null, []),
  (50, .ireturn, 51, 0, 0, 0, 0, .int 0, [])]
def cd16 : List En := [(0, .iload_n 1, 1, 0, 0, 0, 0, .null, []),
  (1, .iconst 0, 2, 0, 0, 0, 0, .int (nI 0), []),
  (2, .iconst 2, 3, 0, 0, 0, 0, .int (nI 2), []),
  (3, .invokestatic 139, 6, 24, 0, 0, 554, .retAddr 3, []),
  (6, .ifCond .ne 6, 9, 12, 0, 0, 0, .null, []),
  (9, .ldc 85, 11, 0, 0, 0, 322, .int ((-1000000001)), []),
  (11, .ireturn, 12, 0, 0, 0, 0, .int 0, []),
  (12, .aload_n 0, 13, 0, 0, 0, 0, .null, []),
  (13, .getfield 10, 16, 16, 0, 0, 276, .null, []),
  (16, .invokevirtual 170, 19, 40, 0, 11, 579, .retAddr 1, []),
  (19, .ifCond .ne 6, 22, 25, 0, 0, 0, .null, []),
  (22, .ldc 173, 24, 0, 0, 0, 580, .int ((-1000000002)), []),
  (24, .ireturn, 25, 0, 0, 0, 0, .int 0, []),
  (25, .aload_n 0, 26, 0, 0, 0, 0, .null, []),
  (26, .getfield 10, 29, 16, 0, 0, 276, .null, []),
  (29, .aload_n 0, 30, 0, 0, 0, 0, .null, []),
  (30, .getfield 16, 33, 16, 1, 0, 277, .null, []),
  (33, .invokestatic 186, 36, 37, 0, 0, 607, .retAddr 2, []),
  (36, .aload_n 0, 37, 0, 0, 0, 0, .null, []),
  (37, .getfield 29, 40, 16, 3, 0, 279, .null, []),
  (40, .aload_n 0, 41, 0, 0, 0, 0, .null, []),
  (41, .getfield 16, 44, 16, 1, 0, 277, .null, []),
  (44, .invokevirtual 190, 47, 33, 4, 10, 608, .retAddr 2, []),
  (47, .istore_n 2, 48, 0, 0, 0, 0, .null, []),
  (48, .iload_n 1, 49, 0, 0, 0, 0, .null, []),
  (49, .lookupswitch 40 #[(0, 27), (1, 29)], 76, 89, 0, 0, 0, .null, [(nI 0, 76), (nI 1, 78)]),
  (76, .iload_n 2, 77, 0, 0, 0, 0, .null, []),
  (77, .ireturn, 78, 0, 0, 0, 0, .int 0, []),
  (78, .aload_n 0, 79, 0, 0, 0, 0, .null, []),
  (79, .getfield 29, 82, 16, 3, 0, 279, .null, []),
  (82, .getfield 194, 85, 10, 0, 1, 214, .null, []),
  (85, .getfield 144, 88, 15, 2, 1, 88, .int 0, []),
  (88, .ireturn, 89, 0, 0, 0, 0, .int 0, []),
  (89, .aload_n 0, 90, 0, 0, 0, 0, .null, []),
  (90, .getfield 29, 93, 16, 3, 0, 279, .null, []),
  (93, .getfield 194, 96, 10, 0, 1, 214, .null, []),
  (96, .invokevirtual 180, 99, 89, 0, 15, 598, .retAddr 1, []),
  (99, .ireturn, 100, 0, 0, 0, 0, .int 0, [])]
def cd17 : List En := [(0, .iload_n 2, 1, 0, 0, 0, 0, .null, []),
  (1, .iconst 0, 2, 0, 0, 0, 0, .int (nI 0), []),
  (2, .iconst 3, 3, 0, 0, 0, 0, .int (nI 3), []),
  (3, .invokestatic 139, 6, 24, 0, 0, 554, .retAddr 3, []),
  (6, .ifCond .ne 6, 9, 12, 0, 0, 0, .null, []),
  (9, .ldc 85, 11, 0, 0, 0, 322, .int ((-1000000001)), []),
  (11, .ireturn, 12, 0, 0, 0, 0, .int 0, []),
  (12, .aload_n 0, 13, 0, 0, 0, 0, .null, []),
  (13, .getfield 10, 16, 16, 0, 0, 276, .null, []),
  (16, .aload_n 0, 17, 0, 0, 0, 0, .null, []),
  (17, .getfield 16, 20, 16, 1, 0, 277, .null, []),
  (20, .invokestatic 186, 23, 37, 0, 0, 607, .retAddr 2, []),
  (23, .aload_n 0, 24, 0, 0, 0, 0, .null, []),
  (24, .getfield 29, 27, 16, 3, 0, 279, .null, []),
  (27, .aload_n 0, 28, 0, 0, 0, 0, .null, []),
  (28, .getfield 16, 31, 16, 1, 0, 277, .null, []),
  (31, .iload_n 1, 32, 0, 0, 0, 0, .null, []),
  (32, .invokevirtual 70, 35, 30, 5, 10, 384, .retAddr 3, []),
  (35, .istore_n 3, 36, 0, 0, 0, 0, .null, []),
  (36, .iload_n 3, 37, 0, 0, 0, 0, .null, []),
  (37, .invokestatic 195, 40, 25, 0, 0, 613, .retAddr 1, []),
  (40, .ifCond .eq 5, 43, 45, 0, 0, 0, .null, []),
  (43, .iload_n 3, 44, 0, 0, 0, 0, .null, []),
  (44, .ireturn, 45, 0, 0, 0, 0, .int 0, []),
  (45, .iload_n 2, 46, 0, 0, 0, 0, .null, []),
  (46, .tableswitch 74 0 2 #[26, 28, 48], 72, 120, 0, 0, 0, .null, [(nI 0, 72), (nI 1, 74), (nI 2, 94)]),
  (72, .iload_n 3, 73, 0, 0, 0, 0, .null, []),
  (73, .ireturn, 74, 0, 0, 0, 0, .int 0, []),
  (74, .aload_n 0, 75, 0, 0, 0, 0, .null, []),
  (75, .getfield 16, 78, 16, 1, 0, 277, .null, []),
  (78, .getfield 198, 81, 11, 14, 1, 148, .null, []),
  (81, .iconst 1, 82, 0, 0, 0, 0, .int (nI 1), []),
  (82, .iaload, 83, 0, 0, 0, 0, .null, []),
  (83, .aload_n 0, 84, 0, 0, 0, 0, .null, []),
  (84, .getfield 10, 87, 16, 0, 0, 276, .null, []),
  (87, .getfield 198, 90, 11, 14, 1, 148, .null, []),
  (90, .iconst 1, 91, 0, 0, 0, 0, .int (nI 1), []),
  (91, .iaload, 92, 0, 0, 0, 0, .null, []),
  (92, .isub, 93, 0, 0, 0, 0, .null, []),
  (93, .ireturn, 94, 0, 0, 0, 0, .int 0, []),
  (94, .aload_n 0, 95, 0, 0, 0, 0, .null, []),
  (95, .getfield 16, 98, 16, 1, 0, 277, .null, []),
  (98, .invokevirtual 132, 101, 41, 0, 11, 548, .retAddr 1, []),
  (101, .ifCond .eq 16, 104, 117, 0, 0, 0, .null, []),
  (104, .aload_n 0, 105, 0, 0, 0, 0, .null, []),
  (105, .getfield 16, 108, 16, 1, 0, 277, .null, []),
  (108, .getfield 108, 111, 11, 15, 1, 150, .null, []),
  (111, .getfield 144, 114, 15, 2, 1, 88, .int 0, []),
  (114, .goto 5, 117, 119, 0, 0, 0, .null, []),
  (117, .ldc 143, 119, 0, 0, 0, 555, .int ((-1000000004)), []),
  (119, .ireturn, 120, 0, 0, 0, 0, .int 0, []),
  (120, .aload_n 0, 121, 0, 0, 0, 0, .null, []),
  (121, .getfield 16, 124, 16, 1, 0, 277, .null, []),
  (124, .invokevirtual 201, 127, 50, 2, 11, 614, .retAddr 1, []),
  (127, .ireturn, 128, 0, 0, 0, 0, .int 0, [])]
def cd18_0 : List En := [(0, .iload_n 1, 1, 0, 0, 0, 0, .null, []),
  (1, .bipush 20, 3, 0, 0, 0, 0, .int (nI 20), []),
  (3, .bipush 26, 5, 0, 0, 0, 0, .int (nI 26), []),
  (5, .invokestatic 139, 8, 24, 0, 0, 554, .retAddr 3, []),
  (8, .ifCond .eq 15, 11, 23, 0, 0, 0, .null, []),
  (11, .aload_n 0, 12, 0, 0, 0, 0, .null, []),
  (12, .getfield 10, 15, 16, 0, 0, 276, .null, []),
  (15, .iload_n 1, 16, 0, 0, 0, 0, .null, []),
  (16, .bipush 20, 18, 0, 0, 0, 0, .int (nI 20), []),
  (18, .isub, 19, 0, 0, 0, 0, .null, []),
  (19, .invokevirtual 204, 22, 43, 0, 11, 619, .retAddr 2, []),
  (22, .ireturn, 23, 0, 0, 0, 0, .int 0, []),
  (23, .iload_n 1, 24, 0, 0, 0, 0, .null, []),
  (24, .tableswitch 212 0 13 #[72, 80, 88, 96, 104, 134, 144, 154, 164, 172, 180, 188, 196, 204], 96, 236, 0, 0, 0, .null, [(nI 0, 96), (nI 1, 104), (nI 2, 112), (nI 3, 120), (nI 4, 128), (nI 5, 158), (nI 6, 168), (nI 7, 178), (nI 8, 188), (nI 9, 196), (nI 10, 204), (nI 11, 212), (nI 12, 220), (nI 13, 228)]),
  (96, .aload_n 0, 97, 0, 0, 0, 0, .null, []),
  (97, .getfield 10, 100, 16, 0, 0, 276, .null, []),
  (100, .getfield 207, 103, 11, 0, 1, 112, .int 0, []),
  (103, .ireturn, 104, 0, 0, 0, 0, .int 0, []),
  (104, .aload_n 0, 105, 0, 0, 0, 0, .null, []),
  (105, .getfield 10, 108, 16, 0, 0, 276, .null, []),
  (108, .getfield 210, 111, 11, 3, 1, 120, .int 0, []),
  (111, .ireturn, 112, 0, 0, 0, 0, .int 0, []),
  (112, .aload_n 0, 113, 0, 0, 0, 0, .null, []),
  (113, .getfield 10, 116, 16, 0, 0, 276, .null, []),
  (116, .invokevirtual 213, 119, 47, 2, 11, 620, .retAddr 1, []),
  (119, .ireturn, 120, 0, 0, 0, 0, .int 0, []),
  (120, .aload_n 0, 121, 0, 0, 0, 0, .null, []),
  (121, .getfield 10, 124, 16, 0, 0, 276, .null, []),
  (124, .getfield 216, 127, 11, 13, 1, 145, .int 0, []),
  (127, .ireturn, 128, 0, 0, 0, 0, .int 0, []),
  (128, .aload_n 0, 129, 0, 0, 0, 0, .null, []),
  (129, .getfield 10, 132, 16, 0, 0, 276, .null, []),
  (132, .getfield 198, 135, 11, 14, 1, 148, .null, []),
  (135, .iconst 0, 136, 0, 0, 0, 0, .int (nI 0), []),
  (136, .iaload, 137, 0, 0, 0, 0, .null, []),
  (137, .aload_n 0, 138, 0, 0, 0, 0, .null, []),
  (138, .getfield 10, 141, 16, 0, 0, 276, .null, []),
  (141, .getfield 198, 144, 11, 14, 1, 148, .null, []),
  (144, .iconst 1, 145, 0, 0, 0, 0, .int (nI 1), []),
  (145, .iaload, 146, 0, 0, 0, 0, .null, []),
  (146, .iadd, 147, 0, 0, 0, 0, .null, []),
  (147, .aload_n 0, 148, 0, 0, 0, 0, .null, []),
  (148, .getfield 10, 151, 16, 0, 0, 276, .null, []),
  (151, .getfield 198, 154, 11, 14, 1, 148, .null, []),
  (154, .iconst 2, 155, 0, 0, 0, 0, .int (nI 2), []),
  (155, .iaload, 156, 0, 0, 0, 0, .null, []),
  (156, .iadd, 157, 0, 0, 0, 0, .null, []),
  (157, .ireturn, 158, 0, 0, 0, 0, .int 0, []),
  (158, .aload_n 0, 159, 0, 0, 0, 0, .null, []),
  (159, .getfield 10, 162, 16, 0, 0, 276, .null, [])]
def cd18_1 : List En := [(162, .getfield 198, 165, 11, 14, 1, 148, .null, []),
  (165, .iconst 0, 166, 0, 0, 0, 0, .int (nI 0), []),
  (166, .iaload, 167, 0, 0, 0, 0, .null, []),
  (167, .ireturn, 168, 0, 0, 0, 0, .int 0, []),
  (168, .aload_n 0, 169, 0, 0, 0, 0, .null, []),
  (169, .getfield 10, 172, 16, 0, 0, 276, .null, []),
  (172, .getfield 198, 175, 11, 14, 1, 148, .null, []),
  (175, .iconst 1, 176, 0, 0, 0, 0, .int (nI 1), []),
  (176, .iaload, 177, 0, 0, 0, 0, .null, []),
  (177, .ireturn, 178, 0, 0, 0, 0, .int 0, []),
  (178, .aload_n 0, 179, 0, 0, 0, 0, .null, []),
  (179, .getfield 10, 182, 16, 0, 0, 276, .null, []),
  (182, .getfield 198, 185, 11, 14, 1, 148, .null, []),
  (185, .iconst 2, 186, 0, 0, 0, 0, .int (nI 2), []),
  (186, .iaload, 187, 0, 0, 0, 0, .null, []),
  (187, .ireturn, 188, 0, 0, 0, 0, .int 0, []),
  (188, .aload_n 0, 189, 0, 0, 0, 0, .null, []),
  (189, .getfield 10, 192, 16, 0, 0, 276, .null, []),
  (192, .invokevirtual 201, 195, 50, 2, 11, 614, .retAddr 1, []),
  (195, .ireturn, 196, 0, 0, 0, 0, .int 0, []),
  (196, .aload_n 0, 197, 0, 0, 0, 0, .null, []),
  (197, .getfield 10, 200, 16, 0, 0, 276, .null, []),
  (200, .invokevirtual 219, 203, 51, 2, 11, 621, .retAddr 1, []),
  (203, .ireturn, 204, 0, 0, 0, 0, .int 0, []),
  (204, .aload_n 0, 205, 0, 0, 0, 0, .null, []),
  (205, .getfield 10, 208, 16, 0, 0, 276, .null, []),
  (208, .getfield 183, 211, 11, 10, 1, 139, .int 0, []),
  (211, .ireturn, 212, 0, 0, 0, 0, .int 0, []),
  (212, .aload_n 0, 213, 0, 0, 0, 0, .null, []),
  (213, .getfield 10, 216, 16, 0, 0, 276, .null, []),
  (216, .getfield 222, 219, 11, 11, 1, 141, .int 0, []),
  (219, .ireturn, 220, 0, 0, 0, 0, .int 0, []),
  (220, .aload_n 0, 221, 0, 0, 0, 0, .null, []),
  (221, .getfield 22, 224, 16, 2, 0, 278, .null, []),
  (224, .getfield 225, 227, 12, 1, 1, 199, .int 0, []),
  (227, .ireturn, 228, 0, 0, 0, 0, .int 0, []),
  (228, .aload_n 0, 229, 0, 0, 0, 0, .null, []),
  (229, .getfield 43, 232, 16, 5, 0, 281, .null, []),
  (232, .getfield 228, 235, 13, 1, 1, 248, .int 0, []),
  (235, .ireturn, 236, 0, 0, 0, 0, .int 0, []),
  (236, .ldc 85, 238, 0, 0, 0, 322, .int ((-1000000001)), []),
  (238, .ireturn, 239, 0, 0, 0, 0, .int 0, [])]
def cd18 : List En := cd18_0 ++ (cd18_1)
def cd19 : List En := [(0, .aload_n 0, 1, 0, 0, 0, 0, .null, []),
  (1, .getfield 22, 4, 16, 2, 0, 278, .null, []),
  (4, .aload_n 0, 5, 0, 0, 0, 0, .null, []),
  (5, .getfield 10, 8, 16, 0, 0, 276, .null, []),
  (8, .invokevirtual 229, 11, 67, 0, 12, 629, .retAddr 2, []),
  (11, .ireturn, 12, 0, 0, 0, 0, .int 0, [])]
def cd20 : List En := [(0, .aload_n 0, 1, 0, 0, 0, 0, .null, []),
  (1, .getfield 43, 4, 16, 5, 0, 281, .null, []),
  (4, .iload_n 1, 5, 0, 0, 0, 0, .null, []),
  (5, .invokevirtual 232, 8, 69, 0, 13, 638, .retAddr 2, []),
  (8, .ireturn, 9, 0, 0, 0, 0, .int 0, [])]
def cd21 : List En := [(0, .aload_n 0, 1, 0, 0, 0, 0, .null, []),
  (1, .getfield 43, 4, 16, 5, 0, 281, .null, []),
  (4, .invokevirtual 235, 7, 70, 1, 13, 649, .retAddr 1, []),
  (7, .ireturn, 8, 0, 0, 0, 0, .int 0, [])]
def cd22 : List En := [(0, .iload_n 1, 1, 0, 0, 0, 0, .null, []),
  (1, .iconst 0, 2, 0, 0, 0, 0, .int (nI 0), []),
  (2, .iconst 2, 3, 0, 0, 0, 0, .int (nI 2), []),
  (3, .invokestatic 139, 6, 24, 0, 0, 554, .retAddr 3, []),
  (6, .ifCond .ne 6, 9, 12, 0, 0, 0, .null, []),
  (9, .ldc 85, 11, 0, 0, 0, 322, .int ((-1000000001)), []),
  (11, .ireturn, 12, 0, 0, 0, 0, .int 0, []),
  (12, .aload_n 0, 13, 0, 0, 0, 0, .null, []),
  (13, .getfield 10, 16, 16, 0, 0, 276, .null, []),
  (16, .aload_n 0, 17, 0, 0, 0, 0, .null, []),
  (17, .getfield 16, 20, 16, 1, 0, 277, .null, []),
  (20, .invokestatic 186, 23, 37, 0, 0, 607, .retAddr 2, []),
  (23, .aload_n 0, 24, 0, 0, 0, 0, .null, []),
  (24, .getfield 43, 27, 16, 5, 0, 281, .null, []),
  (27, .aload_n 0, 28, 0, 0, 0, 0, .null, []),
  (28, .getfield 16, 31, 16, 1, 0, 277, .null, []),
  (31, .aload_n 0, 32, 0, 0, 0, 0, .null, []),
  (32, .getfield 29, 35, 16, 3, 0, 279, .null, []),
  (35, .invokevirtual 238, 38, 71, 3, 13, 657, .retAddr 3, []),
  (38, .pop, 39, 0, 0, 0, 0, .null, []),
  (39, .aload_n 0, 40, 0, 0, 0, 0, .null, []),
  (40, .getfield 43, 43, 16, 5, 0, 281, .null, []),
  (43, .getfield 242, 46, 13, 5, 1, 253, .int 0, []),
  (46, .ifCond .ne 6, 49, 52, 0, 0, 0, .null, []),
  (49, .ldc 143, 51, 0, 0, 0, 555, .int ((-1000000004)), []),
  (51, .ireturn, 52, 0, 0, 0, 0, .int 0, []),
  (52, .iload_n 1, 53, 0, 0, 0, 0, .null, []),
  (53, .lookupswitch 43 #[(0, 27), (1, 35)], 80, 96, 0, 0, 0, .null, [(nI 0, 80), (nI 1, 88)]),
  (80, .aload_n 0, 81, 0, 0, 0, 0, .null, []),
  (81, .getfield 43, 84, 16, 5, 0, 281, .null, []),
  (84, .getfield 245, 87, 13, 6, 1, 255, .int 0, []),
  (87, .ireturn, 88, 0, 0, 0, 0, .int 0, []),
  (88, .aload_n 0, 89, 0, 0, 0, 0, .null, []),
  (89, .getfield 43, 92, 16, 5, 0, 281, .null, []),
  (92, .getfield 242, 95, 13, 5, 1, 253, .int 0, []),
  (95, .ireturn, 96, 0, 0, 0, 0, .int 0, []),
  (96, .aload_n 0, 97, 0, 0, 0, 0, .null, []),
  (97, .getfield 43, 100, 16, 5, 0, 281, .null, []),
  (100, .getfield 248, 103, 13, 7, 1, 257, .int 0, []),
  (103, .ireturn, 104, 0, 0, 0, 0, .int 0, [])]
def cd23 : List En := [(0, .aload_n 0, 1, 0, 0, 0, 0, .null, []),
  (1, .getfield 10, 4, 16, 0, 0, 276, .null, []),
  (4, .aload_n 0, 5, 0, 0, 0, 0, .null, []),
  (5, .getfield 16, 8, 16, 1, 0, 277, .null, []),
  (8, .invokestatic 186, 11, 37, 0, 0, 607, .retAddr 2, []),
  (11, .aload_n 0, 12, 0, 0, 0, 0, .null, []),
  (12, .getfield 43, 15, 16, 5, 0, 281, .null, []),
  (15, .aload_n 0, 16, 0, 0, 0, 0, .null, []),
  (16, .getfield 16, 19, 16, 1, 0, 277, .null, []),
  (19, .aload_n 0, 20, 0, 0, 0, 0, .null, []),
  (20, .getfield 29, 23, 16, 3, 0, 279, .null, []),
  (23, .invokevirtual 238, 26, 71, 3, 13, 657, .retAddr 3, []),
  (26, .istore_n 1, 27, 0, 0, 0, 0, .null, []),
  (27, .aload_n 0, 28, 0, 0, 0, 0, .null, []),
  (28, .getfield 43, 31, 16, 5, 0, 281, .null, []),
  (31, .getfield 242, 34, 13, 5, 1, 253, .int 0, []),
  (34, .ifCond .eq 6, 37, 40, 0, 0, 0, .null, []),
  (37, .ldc 173, 39, 0, 0, 0, 580, .int ((-1000000002)), []),
  (39, .ireturn, 40, 0, 0, 0, 0, .int 0, []),
  (40, .aload_n 0, 41, 0, 0, 0, 0, .null, []),
  (41, .getfield 22, 44, 16, 2, 0, 278, .null, []),
  (44, .aload_n 0, 45, 0, 0, 0, 0, .null, []),
  (45, .getfield 10, 48, 16, 0, 0, 276, .null, []),
  (48, .invokevirtual 47, 51, 64, 0, 12, 299, .retAddr 2, []),
  (51, .aload_n 0, 52, 0, 0, 0, 0, .null, []),
  (52, .getfield 16, 55, 16, 1, 0, 277, .null, []),
  (55, .aload_n 0, 56, 0, 0, 0, 0, .null, []),
  (56, .getfield 10, 59, 16, 0, 0, 276, .null, []),
  (59, .invokestatic 186, 62, 37, 0, 0, 607, .retAddr 2, []),
  (62, .aload_n 0, 63, 0, 0, 0, 0, .null, []),
  (63, .getfield 22, 66, 16, 2, 0, 278, .null, []),
  (66, .iload_n 1, 67, 0, 0, 0, 0, .null, []),
  (67, .invokevirtual 55, 70, 65, 0, 12, 315, .retAddr 2, []),
  (70, .ireturn, 71, 0, 0, 0, 0, .int 0, [])]
def cd24 : List En := [(0, .iload_n 0, 1, 0, 0, 0, 0, .null, []),
  (1, .iload_n 1, 2, 0, 0, 0, 0, .null, []),
  (2, .if_icmp .lt 12, 5, 14, 0, 0, 0, .null, []),
  (5, .iload_n 0, 6, 0, 0, 0, 0, .null, []),
  (6, .iload_n 2, 7, 0, 0, 0, 0, .null, []),
  (7, .if_icmp .gt 7, 10, 14, 0, 0, 0, .null, []),
  (10, .iconst 1, 11, 0, 0, 0, 0, .int (nI 1), []),
  (11, .goto 4, 14, 15, 0, 0, 0, .null, []),
  (14, .iconst 0, 15, 0, 0, 0, 0, .int (nI 0), []),
  (15, .ireturn, 16, 0, 0, 0, 0, .int 1, [])]
def cd25 : List En := [(0, .iload_n 0, 1, 0, 0, 0, 0, .null, []),
  (1, .ldc 85, 3, 0, 0, 0, 322, .int ((-1000000001)), []),
  (3, .if_icmp .gt 7, 6, 10, 0, 0, 0, .null, []),
  (6, .iconst 1, 7, 0, 0, 0, 0, .int (nI 1), []),
  (7, .goto 4, 10, 11, 0, 0, 0, .null, []),
  (10, .iconst 0, 11, 0, 0, 0, 0, .int (nI 0), []),
  (11, .ireturn, 12, 0, 0, 0, 0, .int 1, [])]
def cd26 : List En := [(0, .iload_n 0, 1, 0, 0, 0, 0, .null, []),
  (1, .iload_n 1, 2, 0, 0, 0, 0, .null, []),
  (2, .ishr, 3, 0, 0, 0, 0, .null, []),
  (3, .iconst 1, 4, 0, 0, 0, 0, .int (nI 1), []),
  (4, .iand, 5, 0, 0, 0, 0, .null, []),
  (5, .iconst 1, 6, 0, 0, 0, 0, .int (nI 1), []),
  (6, .if_icmp .ne 7, 9, 13, 0, 0, 0, .null, []),
  (9, .iconst 1, 10, 0, 0, 0, 0, .int (nI 1), []),
  (10, .goto 4, 13, 14, 0, 0, 0, .null, []),
  (13, .iconst 0, 14, 0, 0, 0, 0, .int (nI 0), []),
  (14, .ireturn, 15, 0, 0, 0, 0, .int 1, [])]
def cd27 : List En := [(0, .iconst 0, 1, 0, 0, 0, 0, .int (nI 0), []),
  (1, .istore_n 2, 2, 0, 0, 0, 0, .null, []),
  (2, .iload_n 2, 3, 0, 0, 0, 0, .null, []),
  (3, .aload_n 0, 4, 0, 0, 0, 0, .null, []),
  (4, .arraylength, 5, 0, 0, 0, 0, .null, []),
  (5, .if_icmp .ge 21, 8, 26, 0, 0, 0, .null, []),
  (8, .iload_n 2, 9, 0, 0, 0, 0, .null, []),
  (9, .aload_n 1, 10, 0, 0, 0, 0, .null, []),
  (10, .arraylength, 11, 0, 0, 0, 0, .null, []),
  (11, .if_icmp .ge 15, 14, 26, 0, 0, 0, .null, []),
  (14, .aload_n 1, 15, 0, 0, 0, 0, .null, []),
  (15, .iload_n 2, 16, 0, 0, 0, 0, .null, []),
  (16, .aload_n 0, 17, 0, 0, 0, 0, .null, []),
  (17, .iload_n 2, 18, 0, 0, 0, 0, .null, []),
  (18, .iaload, 19, 0, 0, 0, 0, .null, []),
  (19, .iastore, 20, 0, 0, 0, 0, .null, []),
  (20, .iinc 2 1, 23, 0, 0, 0, 0, .null, []),
  (23, .goto (-21), 26, 2, 0, 0, 0, .null, []),
  (26, .return_, 27, 0, 0, 0, 0, .null, [])]
def cd28 : List En := [(0, .fload_n 0, 1, 0, 0, 0, 0, .null, []),
  (1, .fstore_n 1, 2, 0, 0, 0, 0, .null, []),
  (2, .bipush 127, 4, 0, 0, 0, 0, .int (nI 127), []),
  (4, .istore_n 2, 5, 0, 0, 0, 0, .null, []),
  (5, .fload_n 1, 6, 0, 0, 0, 0, .null, []),
  (6, .fconst 1, 7, 0, 0, 0, 0, .float 1065353216, []),
  (7, .fcmp .g, 8, 0, 0, 0, 0, .null, []),
  (8, .ifCond .ge 18, 11, 26, 0, 0, 0, .null, []),
  (11, .iload_n 2, 12, 0, 0, 0, 0, .null, []),
  (12, .iconst 1, 13, 0, 0, 0, 0, .int (nI 1), []),
  (13, .if_icmp .le 13, 16, 26, 0, 0, 0, .null, []),
  (16, .fload_n 1, 17, 0, 0, 0, 0, .null, []),
  (17, .fconst 2, 18, 0, 0, 0, 0, .float 1073741824, []),
  (18, .fmul, 19, 0, 0, 0, 0, .null, []),
  (19, .fstore_n 1, 20, 0, 0, 0, 0, .null, []),
  (20, .iinc 2 (-1), 23, 0, 0, 0, 0, .null, []),
  (23, .goto (-18), 26, 5, 0, 0, 0, .null, []),
  (26, .fload_n 1, 27, 0, 0, 0, 0, .null, []),
  (27, .fconst 1, 28, 0, 0, 0, 0, .float 1065353216, []),
  (28, .fsub, 29, 0, 0, 0, 0, .null, []),
  (29, .ldc 251, 31, 0, 0, 0, 574, .float 1258291200, []),
  (31, .fmul, 32, 0, 0, 0, 0, .null, []),
  (32, .f2i, 33, 0, 0, 0, 0, .null, []),
  (33, .istore_n 3, 34, 0, 0, 0, 0, .null, []),
  (34, .iload_n 2, 35, 0, 0, 0, 0, .null, []),
  (35, .bipush 23, 37, 0, 0, 0, 0, .int (nI 23), []),
  (37, .ishl, 38, 0, 0, 0, 0, .null, []),
  (38, .iload_n 3, 39, 0, 0, 0, 0, .null, []),
  (39, .ior, 40, 0, 0, 0, 0, .null, []),
  (40, .ireturn, 41, 0, 0, 0, 0, .int 0, [])]
def cd29 : List En := [(0, .aload_n 0, 1, 0, 0, 0, 0, .null, []),
  (1, .invokespecial 3, 4, 900, 0, 0, 210, .null, []),
  (4, .aload_n 0, 5, 0, 0, 0, 0, .null, []),
  (5, .new 9, 8, 15, 5, 0, 211, .null, []),
  (8, .dup, 9, 0, 0, 0, 0, .null, []),
  (9, .invokespecial 11, 12, 85, 0, 15, 212, .retAddr 1, []),
  (12, .putfield 12, 15, 10, 0, 0, 213, .null, []),
  (15, .aload_n 0, 16, 0, 0, 0, 0, .null, []),
  (16, .bipush 16, 18, 0, 0, 0, 0, .int (nI 16), []),
  (18, .newarray .int, 20, 0, 0, 0, 0, .null, []),
  (20, .putfield 18, 23, 10, 1, 0, 215, .null, []),
  (23, .aload_n 0, 24, 0, 0, 0, 0, .null, []),
  (24, .bipush 16, 26, 0, 0, 0, 0, .int (nI 16), []),
  (26, .newarray .int, 28, 0, 0, 0, 0, .null, []),
  (28, .putfield 22, 31, 10, 2, 0, 216, .null, []),
  (31, .return_, 32, 0, 0, 0, 0, .null, [])]
def cd30_0 : List En := [(0, .iload_n 2, 1, 0, 0, 0, 0, .null, []),
  (1, .iconst 1, 2, 0, 0, 0, 0, .int (nI 1), []),
  (2, .iconst 5, 3, 0, 0, 0, 0, .int (nI 5), []),
  (3, .invokestatic 25, 6, 24, 0, 0, 388, .retAddr 3, []),
  (6, .ifCond .ne 6, 9, 12, 0, 0, 0, .null, []),
  (9, .ldc 29, 11, 0, 0, 0, 389, .int ((-1000000001)), []),
  (11, .ireturn, 12, 0, 0, 0, 0, .int 0, []),
  (12, .aload_n 1, 13, 0, 0, 0, 0, .null, []),
  (13, .invokevirtual 30, 16, 40, 0, 11, 390, .retAddr 1, []),
  (16, .ifCond .ne 6, 19, 22, 0, 0, 0, .null, []),
  (19, .ldc 36, 21, 0, 0, 0, 394, .int ((-1000000002)), []),
  (21, .ireturn, 22, 0, 0, 0, 0, .int 0, []),
  (22, .aload_n 1, 23, 0, 0, 0, 0, .null, []),
  (23, .getfield 37, 26, 11, 14, 1, 147, .null, []),
  (26, .iconst 0, 27, 0, 0, 0, 0, .int (nI 0), []),
  (27, .iaload, 28, 0, 0, 0, 0, .null, []),
  (28, .istore_n 3, 29, 0, 0, 0, 0, .null, []),
  (29, .aload_n 1, 30, 0, 0, 0, 0, .null, []),
  (30, .iconst 0, 31, 0, 0, 0, 0, .int (nI 0), []),
  (31, .invokevirtual 40, 34, 43, 0, 11, 395, .retAddr 2, []),
  (34, .istore 4, 36, 0, 0, 0, 0, .null, []),
  (36, .iconst 0, 37, 0, 0, 0, 0, .int (nI 0), []),
  (37, .istore 5, 39, 0, 0, 0, 0, .null, []),
  (39, .iload 5, 41, 0, 0, 0, 0, .null, []),
  (41, .iload_n 2, 42, 0, 0, 0, 0, .null, []),
  (42, .if_icmp .ge 89, 45, 131, 0, 0, 0, .null, []),
  (45, .aload_n 0, 46, 0, 0, 0, 0, .null, []),
  (46, .invokevirtual 44, 49, 31, 1, 10, 396, .retAddr 1, []),
  (49, .iconst 0, 50, 0, 0, 0, 0, .int (nI 0), []),
  (50, .istore 6, 52, 0, 0, 0, 0, .null, []),
  (52, .iload 6, 54, 0, 0, 0, 0, .null, []),
  (54, .iload 4, 56, 0, 0, 0, 0, .null, []),
  (56, .if_icmp .ge 51, 59, 107, 0, 0, 0, .null, []),
  (59, .aload_n 0, 60, 0, 0, 0, 0, .null, []),
  (60, .aload_n 1, 61, 0, 0, 0, 0, .null, []),
  (61, .invokevirtual 47, 64, 33, 4, 10, 400, .retAddr 2, []),
  (64, .istore 7, 66, 0, 0, 0, 0, .null, []),
  (66, .aload_n 1, 67, 0, 0, 0, 0, .null, []),
  (67, .aload_n 0, 68, 0, 0, 0, 0, .null, []),
  (68, .getfield 12, 71, 10, 0, 0, 213, .null, []),
  (71, .iload 7, 73, 0, 0, 0, 0, .null, []),
  (73, .invokevirtual 51, 76, 59, 1, 11, 450, .retAddr 3, []),
  (76, .iload 7, 78, 0, 0, 0, 0, .null, []),
  (78, .ifCond .ne 23, 81, 101, 0, 0, 0, .null, []),
  (81, .aload_n 0, 82, 0, 0, 0, 0, .null, []),
  (82, .aload_n 1, 83, 0, 0, 0, 0, .null, []),
  (83, .aload_n 0, 84, 0, 0, 0, 0, .null, []),
  (84, .getfield 12, 87, 10, 0, 0, 213, .null, []),
  (87, .invokevirtual 55, 90, 61, 0, 11, 463, .retAddr 2, []),
  (90, .invokevirtual 59, 93, 32, 1, 10, 467, .retAddr 2, [])]
def cd30_1 : List En := [(93, .aload_n 1, 94, 0, 0, 0, 0, .null, []),
  (94, .aload_n 0, 95, 0, 0, 0, 0, .null, []),
  (95, .getfield 12, 98, 10, 0, 0, 213, .null, []),
  (98, .invokevirtual 63, 101, 60, 0, 11, 472, .retAddr 2, []),
  (101, .iinc 6 1, 104, 0, 0, 0, 0, .null, []),
  (104, .goto (-52), 107, 52, 0, 0, 0, .null, []),
  (107, .aload_n 1, 108, 0, 0, 0, 0, .null, []),
  (108, .aload_n 0, 109, 0, 0, 0, 0, .null, []),
  (109, .getfield 18, 112, 10, 1, 0, 215, .null, []),
  (112, .invokevirtual 67, 115, 62, 3, 11, 480, .retAddr 2, []),
  (115, .aload_n 1, 116, 0, 0, 0, 0, .null, []),
  (116, .dup, 117, 0, 0, 0, 0, .null, []),
  (117, .getfield 71, 120, 11, 13, 1, 144, .int 0, []),
  (120, .iconst 1, 121, 0, 0, 0, 0, .int (nI 1), []),
  (121, .iadd, 122, 0, 0, 0, 0, .null, []),
  (122, .putfield 71, 125, 11, 13, 1, 144, .int 0, []),
  (125, .iinc 5 1, 128, 0, 0, 0, 0, .null, []),
  (128, .goto (-89), 131, 39, 0, 0, 0, .null, []),
  (131, .aload_n 1, 132, 0, 0, 0, 0, .null, []),
  (132, .getfield 37, 135, 11, 14, 1, 147, .null, []),
  (135, .iconst 0, 136, 0, 0, 0, 0, .int (nI 0), []),
  (136, .iaload, 137, 0, 0, 0, 0, .null, []),
  (137, .iload_n 3, 138, 0, 0, 0, 0, .null, []),
  (138, .isub, 139, 0, 0, 0, 0, .null, []),
  (139, .ireturn, 140, 0, 0, 0, 0, .int 0, [])]
def cd30 : List En := cd30_0 ++ (cd30_1)
def cd31 : List En := [(0, .iconst 0, 1, 0, 0, 0, 0, .int (nI 0), []),
  (1, .istore_n 1, 2, 0, 0, 0, 0, .null, []),
  (2, .iload_n 1, 3, 0, 0, 0, 0, .null, []),
  (3, .aload_n 0, 4, 0, 0, 0, 0, .null, []),
  (4, .getfield 18, 7, 10, 1, 0, 215, .null, []),
  (7, .arraylength, 8, 0, 0, 0, 0, .null, []),
  (8, .if_icmp .ge 16, 11, 24, 0, 0, 0, .null, []),
  (11, .aload_n 0, 12, 0, 0, 0, 0, .null, []),
  (12, .getfield 18, 15, 10, 1, 0, 215, .null, []),
  (15, .iload_n 1, 16, 0, 0, 0, 0, .null, []),
  (16, .iconst 0, 17, 0, 0, 0, 0, .int (nI 0), []),
  (17, .iastore, 18, 0, 0, 0, 0, .null, []),
  (18, .iinc 1 1, 21, 0, 0, 0, 0, .null, []),
  (21, .goto (-19), 24, 2, 0, 0, 0, .null, []),
  (24, .return_, 25, 0, 0, 0, 0, .null, [])]
def cd32 : List En := [(0, .iconst 0, 1, 0, 0, 0, 0, .int (nI 0), []),
  (1, .istore_n 2, 2, 0, 0, 0, 0, .null, []),
  (2, .iload_n 2, 3, 0, 0, 0, 0, .null, []),
  (3, .aload_n 0, 4, 0, 0, 0, 0, .null, []),
  (4, .getfield 18, 7, 10, 1, 0, 215, .null, []),
  (7, .arraylength, 8, 0, 0, 0, 0, .null, []),
  (8, .if_icmp .ge 34, 11, 42, 0, 0, 0, .null, []),
  (11, .aload_n 0, 12, 0, 0, 0, 0, .null, []),
  (12, .getfield 18, 15, 10, 1, 0, 215, .null, []),
  (15, .iload_n 2, 16, 0, 0, 0, 0, .null, []),
  (16, .dup2, 17, 0, 0, 0, 0, .null, []),
  (17, .iaload, 18, 0, 0, 0, 0, .null, []),
  (18, .aload_n 0, 19, 0, 0, 0, 0, .null, []),
  (19, .getfield 12, 22, 10, 0, 0, 213, .null, []),
  (22, .iload_n 2, 23, 0, 0, 0, 0, .null, []),
  (23, .invokevirtual 75, 26, 90, 0, 15, 471, .retAddr 2, []),
  (26, .ifCond .eq 7, 29, 33, 0, 0, 0, .null, []),
  (29, .iload_n 1, 30, 0, 0, 0, 0, .null, []),
  (30, .goto 4, 33, 34, 0, 0, 0, .null, []),
  (33, .iconst 0, 34, 0, 0, 0, 0, .int (nI 0), []),
  (34, .iadd, 35, 0, 0, 0, 0, .null, []),
  (35, .iastore, 36, 0, 0, 0, 0, .null, []),
  (36, .iinc 2 1, 39, 0, 0, 0, 0, .null, []),
  (39, .goto (-37), 42, 2, 0, 0, 0, .null, []),
  (42, .return_, 43, 0, 0, 0, 0, .null, [])]
def cd33 : List En := [(0, .aload_n 0, 1, 0, 0, 0, 0, .null, []),
  (1, .getfield 12, 4, 10, 0, 0, 213, .null, []),
  (4, .invokevirtual 79, 7, 86, 0, 15, 404, .retAddr 1, []),
  (7, .iconst 0, 8, 0, 0, 0, 0, .int (nI 0), []),
  (8, .istore_n 2, 9, 0, 0, 0, 0, .null, []),
  (9, .iload_n 2, 10, 0, 0, 0, 0, .null, []),
  (10, .bipush 10, 12, 0, 0, 0, 0, .int (nI 10), []),
  (12, .if_icmp .ge 100, 15, 112, 0, 0, 0, .null, []),
  (15, .aload_n 0, 16, 0, 0, 0, 0, .null, []),
  (16, .getfield 12, 19, 10, 0, 0, 213, .null, []),
  (19, .invokevirtual 82, 22, 89, 0, 15, 405, .retAddr 1, []),
  (22, .aload_n 1, 23, 0, 0, 0, 0, .null, []),
  (23, .getfield 86, 26, 11, 10, 1, 138, .int 0, []),
  (26, .if_icmp .eq 86, 29, 112, 0, 0, 0, .null, []),
  (29, .aload_n 0, 30, 0, 0, 0, 0, .null, []),
  (30, .aload_n 1, 31, 0, 0, 0, 0, .null, []),
  (31, .invokevirtual 89, 34, 34, 3, 10, 413, .retAddr 2, []),
  (34, .istore_n 3, 35, 0, 0, 0, 0, .null, []),
  (35, .iload_n 3, 36, 0, 0, 0, 0, .null, []),
  (36, .ifCond .ne 5, 39, 41, 0, 0, 0, .null, []),
  (39, .iconst 1, 40, 0, 0, 0, 0, .int (nI 1), []),
  (40, .ireturn, 41, 0, 0, 0, 0, .int 0, []),
  (41, .aload_n 0, 42, 0, 0, 0, 0, .null, []),
  (42, .aload_n 1, 43, 0, 0, 0, 0, .null, []),
  (43, .aload_n 1, 44, 0, 0, 0, 0, .null, []),
  (44, .iload_n 3, 45, 0, 0, 0, 0, .null, []),
  (45, .invokevirtual 92, 48, 58, 0, 11, 432, .retAddr 2, []),
  (48, .invokevirtual 95, 51, 35, 2, 10, 438, .retAddr 3, []),
  (51, .istore 4, 53, 0, 0, 0, 0, .null, []),
  (53, .aload_n 1, 54, 0, 0, 0, 0, .null, []),
  (54, .iload 4, 56, 0, 0, 0, 0, .null, []),
  (56, .invokevirtual 99, 59, 44, 0, 11, 442, .retAddr 2, []),
  (59, .istore 5, 61, 0, 0, 0, 0, .null, []),
  (61, .aload_n 0, 62, 0, 0, 0, 0, .null, []),
  (62, .getfield 12, 65, 10, 0, 0, 213, .null, []),
  (65, .getfield 102, 68, 15, 2, 1, 87, .int 0, []),
  (68, .iload 5, 70, 0, 0, 0, 0, .null, []),
  (70, .iadd, 71, 0, 0, 0, 0, .null, []),
  (71, .aload_n 1, 72, 0, 0, 0, 0, .null, []),
  (72, .bipush 6, 74, 0, 0, 0, 0, .int (nI 6), []),
  (74, .invokevirtual 40, 77, 43, 0, 11, 395, .retAddr 2, []),
  (77, .if_icmp .le 5, 80, 82, 0, 0, 0, .null, []),
  (80, .iconst 2, 81, 0, 0, 0, 0, .int (nI 2), []),
  (81, .ireturn, 82, 0, 0, 0, 0, .int 0, []),
  (82, .aload_n 0, 83, 0, 0, 0, 0, .null, []),
  (83, .getfield 12, 86, 10, 0, 0, 213, .null, []),
  (86, .iload 4, 88, 0, 0, 0, 0, .null, []),
  (88, .aload_n 1, 89, 0, 0, 0, 0, .null, []),
  (89, .iload 4, 91, 0, 0, 0, 0, .null, []),
  (91, .aload_n 0, 92, 0, 0, 0, 0, .null, []),
  (92, .getfield 12, 95, 10, 0, 0, 213, .null, []),
  (95, .invokevirtual 82, 98, 89, 0, 15, 405, .retAddr 1, []),
  (98, .invokevirtual 105, 101, 46, 0, 11, 417, .retAddr 3, []),
  (101, .iload 5, 103, 0, 0, 0, 0, .null, []),
  (103, .invokevirtual 109, 106, 87, 0, 15, 446, .retAddr 4, []),
  (106, .iinc 2 1, 109, 0, 0, 0, 0, .null, []),
  (109, .goto (-100), 112, 9, 0, 0, 0, .null, []),
  (112, .iconst 0, 113, 0, 0, 0, 0, .int (nI 0), []),
  (113, .ireturn, 114, 0, 0, 0, 0, .int 0, [])]
def cd34 : List En := [(0, .aload_n 0, 1, 0, 0, 0, 0, .null, []),
  (1, .getfield 12, 4, 10, 0, 0, 213, .null, []),
  (4, .invokevirtual 82, 7, 89, 0, 15, 405, .retAddr 1, []),
  (7, .istore_n 2, 8, 0, 0, 0, 0, .null, []),
  (8, .iconst 0, 9, 0, 0, 0, 0, .int (nI 0), []),
  (9, .istore_n 3, 10, 0, 0, 0, 0, .null, []),
  (10, .iconst 0, 11, 0, 0, 0, 0, .int (nI 0), []),
  (11, .istore 4, 13, 0, 0, 0, 0, .null, []),
  (13, .iload 4, 15, 0, 0, 0, 0, .null, []),
  (15, .aload_n 1, 16, 0, 0, 0, 0, .null, []),
  (16, .getfield 113, 19, 11, 3, 1, 119, .int 0, []),
  (19, .if_icmp .ge 63, 22, 82, 0, 0, 0, .null, []),
  (22, .iload 4, 24, 0, 0, 0, 0, .null, []),
  (24, .aload_n 0, 25, 0, 0, 0, 0, .null, []),
  (25, .getfield 22, 28, 10, 2, 0, 216, .null, []),
  (28, .arraylength, 29, 0, 0, 0, 0, .null, []),
  (29, .if_icmp .ge 53, 32, 82, 0, 0, 0, .null, []),
  (32, .aload_n 0, 33, 0, 0, 0, 0, .null, []),
  (33, .getfield 22, 36, 10, 2, 0, 216, .null, []),
  (36, .iload 4, 38, 0, 0, 0, 0, .null, []),
  (38, .aload_n 0, 39, 0, 0, 0, 0, .null, []),
  (39, .getfield 12, 42, 10, 0, 0, 213, .null, []),
  (42, .aload_n 1, 43, 0, 0, 0, 0, .null, []),
  (43, .iload 4, 45, 0, 0, 0, 0, .null, []),
  (45, .iload_n 2, 46, 0, 0, 0, 0, .null, []),
  (46, .invokevirtual 105, 49, 46, 0, 11, 417, .retAddr 3, []),
  (49, .invokevirtual 116, 52, 92, 0, 15, 421, .retAddr 2, []),
  (52, .ifCond .eq 12, 55, 64, 0, 0, 0, .null, []),
  (55, .aload_n 1, 56, 0, 0, 0, 0, .null, []),
  (56, .iload 4, 58, 0, 0, 0, 0, .null, []),
  (58, .invokevirtual 119, 61, 45, 0, 11, 428, .retAddr 2, []),
  (61, .goto 4, 64, 65, 0, 0, 0, .null, []),
  (64, .iconst 0, 65, 0, 0, 0, 0, .int (nI 0), []),
  (65, .iastore, 66, 0, 0, 0, 0, .null, []),
  (66, .iload_n 3, 67, 0, 0, 0, 0, .null, []),
  (67, .aload_n 0, 68, 0, 0, 0, 0, .null, []),
  (68, .getfield 22, 71, 10, 2, 0, 216, .null, []),
  (71, .iload 4, 73, 0, 0, 0, 0, .null, []),
  (73, .iaload, 74, 0, 0, 0, 0, .null, []),
  (74, .iadd, 75, 0, 0, 0, 0, .null, []),
  (75, .istore_n 3, 76, 0, 0, 0, 0, .null, []),
  (76, .iinc 4 1, 79, 0, 0, 0, 0, .null, []),
  (79, .goto (-66), 82, 13, 0, 0, 0, .null, []),
  (82, .iload_n 3, 83, 0, 0, 0, 0, .null, []),
  (83, .ireturn, 84, 0, 0, 0, 0, .int 0, [])]
def cd35 : List En := [(0, .iload_n 2, 1, 0, 0, 0, 0, .null, []),
  (1, .istore_n 3, 2, 0, 0, 0, 0, .null, []),
  (2, .iconst 0, 3, 0, 0, 0, 0, .int (nI 0), []),
  (3, .istore 4, 5, 0, 0, 0, 0, .null, []),
  (5, .iload 4, 7, 0, 0, 0, 0, .null, []),
  (7, .aload_n 1, 8, 0, 0, 0, 0, .null, []),
  (8, .getfield 113, 11, 11, 3, 1, 119, .int 0, []),
  (11, .if_icmp .ge 36, 14, 47, 0, 0, 0, .null, []),
  (14, .iload 4, 16, 0, 0, 0, 0, .null, []),
  (16, .aload_n 0, 17, 0, 0, 0, 0, .null, []),
  (17, .getfield 22, 20, 10, 2, 0, 216, .null, []),
  (20, .arraylength, 21, 0, 0, 0, 0, .null, []),
  (21, .if_icmp .ge 26, 24, 47, 0, 0, 0, .null, []),
  (24, .iload_n 3, 25, 0, 0, 0, 0, .null, []),
  (25, .aload_n 0, 26, 0, 0, 0, 0, .null, []),
  (26, .getfield 22, 29, 10, 2, 0, 216, .null, []),
  (29, .iload 4, 31, 0, 0, 0, 0, .null, []),
  (31, .iaload, 32, 0, 0, 0, 0, .null, []),
  (32, .isub, 33, 0, 0, 0, 0, .null, []),
  (33, .istore_n 3, 34, 0, 0, 0, 0, .null, []),
  (34, .iload_n 3, 35, 0, 0, 0, 0, .null, []),
  (35, .ifCond .ge 6, 38, 41, 0, 0, 0, .null, []),
  (38, .iload 4, 40, 0, 0, 0, 0, .null, []),
  (40, .ireturn, 41, 0, 0, 0, 0, .int 0, []),
  (41, .iinc 4 1, 44, 0, 0, 0, 0, .null, []),
  (44, .goto (-39), 47, 5, 0, 0, 0, .null, []),
  (47, .iconst (-1), 48, 0, 0, 0, 0, .int ((-1)), []),
  (48, .ireturn, 49, 0, 0, 0, 0, .int 0, [])]
def cd36_0 : List En := [(0, .aload_n 0, 1, 0, 0, 0, 0, .null, []),
  (1, .invokespecial 3, 4, 900, 0, 0, 75, .null, []),
  (4, .aload_n 0, 5, 0, 0, 0, 0, .null, []),
  (5, .iconst 0, 6, 0, 0, 0, 0, .int (nI 0), []),
  (6, .putfield 9, 9, 11, 0, 0, 110, .int 0, []),
  (9, .aload_n 0, 10, 0, 0, 0, 0, .null, []),
  (10, .bipush 10, 12, 0, 0, 0, 0, .int (nI 10), []),
  (12, .newarray .int, 14, 0, 0, 0, 0, .null, []),
  (14, .putfield 15, 17, 11, 1, 0, 113, .null, []),
  (17, .aload_n 0, 18, 0, 0, 0, 0, .null, []),
  (18, .bipush 10, 20, 0, 0, 0, 0, .int (nI 10), []),
  (20, .newarray .int, 22, 0, 0, 0, 0, .null, []),
  (22, .putfield 19, 25, 11, 2, 0, 115, .null, []),
  (25, .aload_n 0, 26, 0, 0, 0, 0, .null, []),
  (26, .iconst 0, 27, 0, 0, 0, 0, .int (nI 0), []),
  (27, .putfield 22, 30, 11, 3, 0, 117, .int 0, []),
  (30, .aload_n 0, 31, 0, 0, 0, 0, .null, []),
  (31, .bipush 16, 33, 0, 0, 0, 0, .int (nI 16), []),
  (33, .newarray .int, 35, 0, 0, 0, 0, .null, []),
  (35, .putfield 25, 38, 11, 4, 0, 121, .null, []),
  (38, .aload_n 0, 39, 0, 0, 0, 0, .null, []),
  (39, .bipush 16, 41, 0, 0, 0, 0, .int (nI 16), []),
  (41, .newarray .int, 43, 0, 0, 0, 0, .null, []),
  (43, .putfield 28, 46, 11, 5, 0, 124, .null, []),
  (46, .aload_n 0, 47, 0, 0, 0, 0, .null, []),
  (47, .bipush 16, 49, 0, 0, 0, 0, .int (nI 16), []),
  (49, .newarray .int, 51, 0, 0, 0, 0, .null, []),
  (51, .putfield 31, 54, 11, 6, 0, 127, .null, []),
  (54, .aload_n 0, 55, 0, 0, 0, 0, .null, []),
  (55, .bipush 16, 57, 0, 0, 0, 0, .int (nI 16), []),
  (57, .newarray .int, 59, 0, 0, 0, 0, .null, []),
  (59, .putfield 34, 62, 11, 7, 0, 130, .null, []),
  (62, .aload_n 0, 63, 0, 0, 0, 0, .null, []),
  (63, .bipush 16, 65, 0, 0, 0, 0, .int (nI 16), []),
  (65, .newarray .int, 67, 0, 0, 0, 0, .null, []),
  (67, .putfield 37, 70, 11, 8, 0, 133, .null, []),
  (70, .aload_n 0, 71, 0, 0, 0, 0, .null, []),
  (71, .bipush 16, 73, 0, 0, 0, 0, .int (nI 16), []),
  (73, .newarray .int, 75, 0, 0, 0, 0, .null, []),
  (75, .putfield 40, 78, 11, 9, 0, 135, .null, []),
  (78, .aload_n 0, 79, 0, 0, 0, 0, .null, []),
  (79, .iconst 1, 80, 0, 0, 0, 0, .int (nI 1), []),
  (80, .putfield 43, 83, 11, 10, 0, 136, .int 0, []),
  (83, .aload_n 0, 84, 0, 0, 0, 0, .null, []),
  (84, .iconst 1, 85, 0, 0, 0, 0, .int (nI 1), []),
  (85, .putfield 46, 88, 11, 11, 0, 140, .int 0, []),
  (88, .aload_n 0, 89, 0, 0, 0, 0, .null, []),
  (89, .bipush 7, 91, 0, 0, 0, 0, .int (nI 7), []),
  (91, .newarray .int, 93, 0, 0, 0, 0, .null, []),
  (93, .putfield 49, 96, 11, 12, 0, 142, .null, [])]
def cd36_1 : List En := [(96, .aload_n 0, 97, 0, 0, 0, 0, .null, []),
  (97, .iconst 0, 98, 0, 0, 0, 0, .int (nI 0), []),
  (98, .putfield 52, 101, 11, 13, 0, 143, .int 0, []),
  (101, .aload_n 0, 102, 0, 0, 0, 0, .null, []),
  (102, .iconst 3, 103, 0, 0, 0, 0, .int (nI 3), []),
  (103, .newarray .int, 105, 0, 0, 0, 0, .null, []),
  (105, .putfield 55, 108, 11, 14, 0, 146, .null, []),
  (108, .aload_n 0, 109, 0, 0, 0, 0, .null, []),
  (109, .new 58, 112, 15, 5, 0, 76, .null, []),
  (112, .dup, 113, 0, 0, 0, 0, .null, []),
  (113, .invokespecial 60, 116, 85, 0, 15, 78, .retAddr 1, []),
  (116, .putfield 61, 119, 11, 15, 0, 149, .null, []),
  (119, .aload_n 0, 120, 0, 0, 0, 0, .null, []),
  (120, .iconst 0, 121, 0, 0, 0, 0, .int (nI 0), []),
  (121, .putfield 65, 124, 11, 16, 0, 151, .int 0, []),
  (124, .getstatic 68, 127, 1000, 0, 1, 105, .null, []),
  (127, .aload_n 0, 128, 0, 0, 0, 0, .null, []),
  (128, .getfield 49, 131, 11, 12, 0, 142, .null, []),
  (131, .invokestatic 71, 134, 27, 1, 0, 107, .retAddr 2, []),
  (134, .return_, 135, 0, 0, 0, 0, .null, [])]
def cd36 : List En := cd36_0 ++ (cd36_1)
def cd37_0 : List En := [(0, .aload_n 0, 1, 0, 0, 0, 0, .null, []),
  (1, .ifnull 7, 4, 8, 0, 0, 0, .null, []),
  (4, .aload_n 1, 5, 0, 0, 0, 0, .null, []),
  (5, .ifnonnull 4, 8, 9, 0, 0, 0, .null, []),
  (8, .return_, 9, 0, 0, 0, 0, .null, []),
  (9, .aload_n 1, 10, 0, 0, 0, 0, .null, []),
  (10, .aload_n 0, 11, 0, 0, 0, 0, .null, []),
  (11, .getfield 9, 14, 11, 0, 0, 110, .int 0, []),
  (14, .putfield 9, 17, 11, 0, 0, 110, .int 0, []),
  (17, .aload_n 0, 18, 0, 0, 0, 0, .null, []),
  (18, .getfield 15, 21, 11, 1, 0, 113, .null, []),
  (21, .aload_n 1, 22, 0, 0, 0, 0, .null, []),
  (22, .getfield 15, 25, 11, 1, 0, 113, .null, []),
  (25, .invokestatic 71, 28, 27, 1, 0, 107, .retAddr 2, []),
  (28, .aload_n 0, 29, 0, 0, 0, 0, .null, []),
  (29, .getfield 19, 32, 11, 2, 0, 115, .null, []),
  (32, .aload_n 1, 33, 0, 0, 0, 0, .null, []),
  (33, .getfield 19, 36, 11, 2, 0, 115, .null, []),
  (36, .invokestatic 71, 39, 27, 1, 0, 107, .retAddr 2, []),
  (39, .aload_n 1, 40, 0, 0, 0, 0, .null, []),
  (40, .aload_n 0, 41, 0, 0, 0, 0, .null, []),
  (41, .getfield 22, 44, 11, 3, 0, 117, .int 0, []),
  (44, .putfield 22, 47, 11, 3, 0, 117, .int 0, []),
  (47, .aload_n 0, 48, 0, 0, 0, 0, .null, []),
  (48, .getfield 25, 51, 11, 4, 0, 121, .null, []),
  (51, .aload_n 1, 52, 0, 0, 0, 0, .null, []),
  (52, .getfield 25, 55, 11, 4, 0, 121, .null, []),
  (55, .invokestatic 71, 58, 27, 1, 0, 107, .retAddr 2, []),
  (58, .aload_n 0, 59, 0, 0, 0, 0, .null, []),
  (59, .getfield 28, 62, 11, 5, 0, 124, .null, []),
  (62, .aload_n 1, 63, 0, 0, 0, 0, .null, []),
  (63, .getfield 28, 66, 11, 5, 0, 124, .null, []),
  (66, .invokestatic 71, 69, 27, 1, 0, 107, .retAddr 2, []),
  (69, .aload_n 0, 70, 0, 0, 0, 0, .null, []),
  (70, .getfield 31, 73, 11, 6, 0, 127, .null, []),
  (73, .aload_n 1, 74, 0, 0, 0, 0, .null, []),
  (74, .getfield 31, 77, 11, 6, 0, 127, .null, []),
  (77, .invokestatic 71, 80, 27, 1, 0, 107, .retAddr 2, []),
  (80, .aload_n 0, 81, 0, 0, 0, 0, .null, []),
  (81, .getfield 34, 84, 11, 7, 0, 130, .null, []),
  (84, .aload_n 1, 85, 0, 0, 0, 0, .null, []),
  (85, .getfield 34, 88, 11, 7, 0, 130, .null, []),
  (88, .invokestatic 71, 91, 27, 1, 0, 107, .retAddr 2, []),
  (91, .aload_n 0, 92, 0, 0, 0, 0, .null, []),
  (92, .getfield 37, 95, 11, 8, 0, 133, .null, []),
  (95, .aload_n 1, 96, 0, 0, 0, 0, .null, []),
  (96, .getfield 37, 99, 11, 8, 0, 133, .null, []),
  (99, .invokestatic 71, 102, 27, 1, 0, 107, .retAddr 2, []),
  (102, .aload_n 0, 103, 0, 0, 0, 0, .null, []),
  (103, .getfield 40, 106, 11, 9, 0, 135, .null, [])]
def cd37_1 : List En := [(106, .aload_n 1, 107, 0, 0, 0, 0, .null, []),
  (107, .getfield 40, 110, 11, 9, 0, 135, .null, []),
  (110, .invokestatic 71, 113, 27, 1, 0, 107, .retAddr 2, []),
  (113, .aload_n 1, 114, 0, 0, 0, 0, .null, []),
  (114, .aload_n 0, 115, 0, 0, 0, 0, .null, []),
  (115, .getfield 43, 118, 11, 10, 0, 136, .int 0, []),
  (118, .putfield 43, 121, 11, 10, 0, 136, .int 0, []),
  (121, .aload_n 1, 122, 0, 0, 0, 0, .null, []),
  (122, .aload_n 0, 123, 0, 0, 0, 0, .null, []),
  (123, .getfield 46, 126, 11, 11, 0, 140, .int 0, []),
  (126, .putfield 46, 129, 11, 11, 0, 140, .int 0, []),
  (129, .aload_n 0, 130, 0, 0, 0, 0, .null, []),
  (130, .getfield 49, 133, 11, 12, 0, 142, .null, []),
  (133, .aload_n 1, 134, 0, 0, 0, 0, .null, []),
  (134, .getfield 49, 137, 11, 12, 0, 142, .null, []),
  (137, .invokestatic 71, 140, 27, 1, 0, 107, .retAddr 2, []),
  (140, .aload_n 1, 141, 0, 0, 0, 0, .null, []),
  (141, .aload_n 0, 142, 0, 0, 0, 0, .null, []),
  (142, .getfield 52, 145, 11, 13, 0, 143, .int 0, []),
  (145, .putfield 52, 148, 11, 13, 0, 143, .int 0, []),
  (148, .aload_n 0, 149, 0, 0, 0, 0, .null, []),
  (149, .getfield 55, 152, 11, 14, 0, 146, .null, []),
  (152, .aload_n 1, 153, 0, 0, 0, 0, .null, []),
  (153, .getfield 55, 156, 11, 14, 0, 146, .null, []),
  (156, .invokestatic 71, 159, 27, 1, 0, 107, .retAddr 2, []),
  (159, .aload_n 0, 160, 0, 0, 0, 0, .null, []),
  (160, .getfield 61, 163, 11, 15, 0, 149, .null, []),
  (163, .aload_n 1, 164, 0, 0, 0, 0, .null, []),
  (164, .getfield 61, 167, 11, 15, 0, 149, .null, []),
  (167, .invokestatic 75, 170, 93, 0, 0, 306, .retAddr 2, []),
  (170, .aload_n 1, 171, 0, 0, 0, 0, .null, []),
  (171, .aload_n 0, 172, 0, 0, 0, 0, .null, []),
  (172, .getfield 65, 175, 11, 16, 0, 151, .int 0, []),
  (175, .putfield 65, 178, 11, 16, 0, 151, .int 0, []),
  (178, .return_, 179, 0, 0, 0, 0, .null, [])]
def cd37 : List En := cd37_0 ++ (cd37_1)
def cd38 : List En := [(0, .iload_n 1, 1, 0, 0, 0, 0, .null, []),
  (1, .ifCond .lt 21, 4, 22, 0, 0, 0, .null, []),
  (4, .iload_n 1, 5, 0, 0, 0, 0, .null, []),
  (5, .aload_n 0, 6, 0, 0, 0, 0, .null, []),
  (6, .getfield 9, 9, 11, 0, 0, 110, .int 0, []),
  (9, .if_icmp .ge 13, 12, 22, 0, 0, 0, .null, []),
  (12, .iload_n 1, 13, 0, 0, 0, 0, .null, []),
  (13, .bipush 10, 15, 0, 0, 0, 0, .int (nI 10), []),
  (15, .if_icmp .ge 7, 18, 22, 0, 0, 0, .null, []),
  (18, .iconst 1, 19, 0, 0, 0, 0, .int (nI 1), []),
  (19, .goto 4, 22, 23, 0, 0, 0, .null, []),
  (22, .iconst 0, 23, 0, 0, 0, 0, .int (nI 0), []),
  (23, .ireturn, 24, 0, 0, 0, 0, .int 1, [])]
def cd39 : List En := [(0, .iload_n 1, 1, 0, 0, 0, 0, .null, []),
  (1, .ifCond .lt 21, 4, 22, 0, 0, 0, .null, []),
  (4, .iload_n 1, 5, 0, 0, 0, 0, .null, []),
  (5, .aload_n 0, 6, 0, 0, 0, 0, .null, []),
  (6, .getfield 22, 9, 11, 3, 0, 117, .int 0, []),
  (9, .if_icmp .ge 13, 12, 22, 0, 0, 0, .null, []),
  (12, .iload_n 1, 13, 0, 0, 0, 0, .null, []),
  (13, .bipush 16, 15, 0, 0, 0, 0, .int (nI 16), []),
  (15, .if_icmp .ge 7, 18, 22, 0, 0, 0, .null, []),
  (18, .iconst 1, 19, 0, 0, 0, 0, .int (nI 1), []),
  (19, .goto 4, 22, 23, 0, 0, 0, .null, []),
  (22, .iconst 0, 23, 0, 0, 0, 0, .int (nI 0), []),
  (23, .ireturn, 24, 0, 0, 0, 0, .int 1, [])]
def cd40 : List En := [(0, .aload_n 0, 1, 0, 0, 0, 0, .null, []),
  (1, .getfield 9, 4, 11, 0, 0, 110, .int 0, []),
  (4, .iconst 2, 5, 0, 0, 0, 0, .int (nI 2), []),
  (5, .if_icmp .lt 7, 8, 12, 0, 0, 0, .null, []),
  (8, .iconst 1, 9, 0, 0, 0, 0, .int (nI 1), []),
  (9, .goto 4, 12, 13, 0, 0, 0, .null, []),
  (12, .iconst 0, 13, 0, 0, 0, 0, .int (nI 0), []),
  (13, .ireturn, 14, 0, 0, 0, 0, .int 1, [])]
def cd41 : List En := [(0, .aload_n 0, 1, 0, 0, 0, 0, .null, []),
  (1, .getfield 61, 4, 11, 15, 0, 149, .null, []),
  (4, .getfield 79, 7, 15, 1, 1, 84, .int 0, []),
  (7, .ifCond .le 7, 10, 14, 0, 0, 0, .null, []),
  (10, .iconst 1, 11, 0, 0, 0, 0, .int (nI 1), []),
  (11, .goto 4, 14, 15, 0, 0, 0, .null, []),
  (14, .iconst 0, 15, 0, 0, 0, 0, .int (nI 0), []),
  (15, .ireturn, 16, 0, 0, 0, 0, .int 1, [])]
def cd42 : List En := [(0, .aload_n 0, 1, 0, 0, 0, 0, .null, []),
  (1, .iload_n 1, 2, 0, 0, 0, 0, .null, []),
  (2, .invokevirtual 82, 5, 39, 0, 11, 355, .retAddr 2, []),
  (5, .ifCond .eq 17, 8, 22, 0, 0, 0, .null, []),
  (8, .aload_n 0, 9, 0, 0, 0, 0, .null, []),
  (9, .getfield 40, 12, 11, 9, 0, 135, .null, []),
  (12, .iload_n 1, 13, 0, 0, 0, 0, .null, []),
  (13, .iaload, 14, 0, 0, 0, 0, .null, []),
  (14, .iconst 1, 15, 0, 0, 0, 0, .int (nI 1), []),
  (15, .if_icmp .ne 7, 18, 22, 0, 0, 0, .null, []),
  (18, .iconst 1, 19, 0, 0, 0, 0, .int (nI 1), []),
  (19, .goto 4, 22, 23, 0, 0, 0, .null, []),
  (22, .iconst 0, 23, 0, 0, 0, 0, .int (nI 0), []),
  (23, .ireturn, 24, 0, 0, 0, 0, .int 1, [])]
def cd43 : List En := [(0, .iload_n 1, 1, 0, 0, 0, 0, .null, []),
  (1, .ifCond .lt 21, 4, 22, 0, 0, 0, .null, []),
  (4, .iload_n 1, 5, 0, 0, 0, 0, .null, []),
  (5, .aload_n 0, 6, 0, 0, 0, 0, .null, []),
  (6, .getfield 49, 9, 11, 12, 0, 142, .null, []),
  (9, .arraylength, 10, 0, 0, 0, 0, .null, []),
  (10, .if_icmp .ge 12, 13, 22, 0, 0, 0, .null, []),
  (13, .aload_n 0, 14, 0, 0, 0, 0, .null, []),
  (14, .getfield 49, 17, 11, 12, 0, 142, .null, []),
  (17, .iload_n 1, 18, 0, 0, 0, 0, .null, []),
  (18, .iaload, 19, 0, 0, 0, 0, .null, []),
  (19, .goto 4, 22, 23, 0, 0, 0, .null, []),
  (22, .iconst 0, 23, 0, 0, 0, 0, .int (nI 0), []),
  (23, .ireturn, 24, 0, 0, 0, 0, .int 0, [])]
def cd44 : List En := [(0, .aload_n 0, 1, 0, 0, 0, 0, .null, []),
  (1, .iload_n 1, 2, 0, 0, 0, 0, .null, []),
  (2, .invokevirtual 82, 5, 39, 0, 11, 355, .retAddr 2, []),
  (5, .ifCond .eq 12, 8, 17, 0, 0, 0, .null, []),
  (8, .aload_n 0, 9, 0, 0, 0, 0, .null, []),
  (9, .getfield 31, 12, 11, 6, 0, 127, .null, []),
  (12, .iload_n 1, 13, 0, 0, 0, 0, .null, []),
  (13, .iaload, 14, 0, 0, 0, 0, .null, []),
  (14, .goto 4, 17, 18, 0, 0, 0, .null, []),
  (17, .iconst 0, 18, 0, 0, 0, 0, .int (nI 0), []),
  (18, .ireturn, 19, 0, 0, 0, 0, .int 0, [])]
def cd45 : List En := [(0, .aload_n 0, 1, 0, 0, 0, 0, .null, []),
  (1, .iload_n 1, 2, 0, 0, 0, 0, .null, []),
  (2, .invokevirtual 82, 5, 39, 0, 11, 355, .retAddr 2, []),
  (5, .ifCond .eq 13, 8, 18, 0, 0, 0, .null, []),
  (8, .aload_n 0, 9, 0, 0, 0, 0, .null, []),
  (9, .getfield 31, 12, 11, 6, 0, 127, .null, []),
  (12, .iload_n 1, 13, 0, 0, 0, 0, .null, []),
  (13, .iaload, 14, 0, 0, 0, 0, .null, []),
  (14, .iconst 1, 15, 0, 0, 0, 0, .int (nI 1), []),
  (15, .if_icmp .ge 5, 18, 20, 0, 0, 0, .null, []),
  (18, .iconst 0, 19, 0, 0, 0, 0, .int (nI 0), []),
  (19, .ireturn, 20, 0, 0, 0, 0, .int 0, []),
  (20, .aload_n 0, 21, 0, 0, 0, 0, .null, []),
  (21, .getfield 34, 24, 11, 7, 0, 130, .null, []),
  (24, .iload_n 1, 25, 0, 0, 0, 0, .null, []),
  (25, .iaload, 26, 0, 0, 0, 0, .null, []),
  (26, .bipush 20, 28, 0, 0, 0, 0, .int (nI 20), []),
  (28, .imul, 29, 0, 0, 0, 0, .null, []),
  (29, .aload_n 0, 30, 0, 0, 0, 0, .null, []),
  (30, .getfield 31, 33, 11, 6, 0, 127, .null, []),
  (33, .iload_n 1, 34, 0, 0, 0, 0, .null, []),
  (34, .iaload, 35, 0, 0, 0, 0, .null, []),
  (35, .idiv, 36, 0, 0, 0, 0, .null, []),
  (36, .iconst 1, 37, 0, 0, 0, 0, .int (nI 1), []),
  (37, .iadd, 38, 0, 0, 0, 0, .null, []),
  (38, .ireturn, 39, 0, 0, 0, 0, .int 0, [])]
def cd46 : List En := [(0, .aload_n 0, 1, 0, 0, 0, 0, .null, []),
  (1, .iload_n 1, 2, 0, 0, 0, 0, .null, []),
  (2, .invokevirtual 82, 5, 39, 0, 11, 355, .retAddr 2, []),
  (5, .ifCond .eq 13, 8, 18, 0, 0, 0, .null, []),
  (8, .aload_n 0, 9, 0, 0, 0, 0, .null, []),
  (9, .getfield 40, 12, 11, 9, 0, 135, .null, []),
  (12, .iload_n 1, 13, 0, 0, 0, 0, .null, []),
  (13, .iaload, 14, 0, 0, 0, 0, .null, []),
  (14, .iconst 1, 15, 0, 0, 0, 0, .int (nI 1), []),
  (15, .if_icmp .ne 5, 18, 20, 0, 0, 0, .null, []),
  (18, .iconst (-1), 19, 0, 0, 0, 0, .int ((-1)), []),
  (19, .ireturn, 20, 0, 0, 0, 0, .int 0, []),
  (20, .aload_n 0, 21, 0, 0, 0, 0, .null, []),
  (21, .getfield 25, 24, 11, 4, 0, 121, .null, []),
  (24, .iload_n 1, 25, 0, 0, 0, 0, .null, []),
  (25, .iaload, 26, 0, 0, 0, 0, .null, []),
  (26, .iload_n 2, 27, 0, 0, 0, 0, .null, []),
  (27, .if_icmp .ne 10, 30, 37, 0, 0, 0, .null, []),
  (30, .aload_n 0, 31, 0, 0, 0, 0, .null, []),
  (31, .getfield 28, 34, 11, 5, 0, 124, .null, []),
  (34, .iload_n 1, 35, 0, 0, 0, 0, .null, []),
  (35, .iaload, 36, 0, 0, 0, 0, .null, []),
  (36, .ireturn, 37, 0, 0, 0, 0, .int 0, []),
  (37, .aload_n 0, 38, 0, 0, 0, 0, .null, []),
  (38, .getfield 28, 41, 11, 5, 0, 124, .null, []),
  (41, .iload_n 1, 42, 0, 0, 0, 0, .null, []),
  (42, .iaload, 43, 0, 0, 0, 0, .null, []),
  (43, .iload_n 2, 44, 0, 0, 0, 0, .null, []),
  (44, .if_icmp .ne 12, 47, 56, 0, 0, 0, .null, []),
  (47, .aload_n 0, 48, 0, 0, 0, 0, .null, []),
  (48, .getfield 25, 51, 11, 4, 0, 121, .null, []),
  (51, .iload_n 1, 52, 0, 0, 0, 0, .null, []),
  (52, .iaload, 53, 0, 0, 0, 0, .null, []),
  (53, .goto 4, 56, 57, 0, 0, 0, .null, []),
  (56, .iconst (-1), 57, 0, 0, 0, 0, .int ((-1)), []),
  (57, .ireturn, 58, 0, 0, 0, 0, .int 0, [])]
def cd47 : List En := [(0, .iconst 0, 1, 0, 0, 0, 0, .int (nI 0), []),
  (1, .istore_n 1, 2, 0, 0, 0, 0, .null, []),
  (2, .iconst 0, 3, 0, 0, 0, 0, .int (nI 0), []),
  (3, .istore_n 2, 4, 0, 0, 0, 0, .null, []),
  (4, .iload_n 2, 5, 0, 0, 0, 0, .null, []),
  (5, .aload_n 0, 6, 0, 0, 0, 0, .null, []),
  (6, .getfield 22, 9, 11, 3, 0, 117, .int 0, []),
  (9, .if_icmp .ge 25, 12, 34, 0, 0, 0, .null, []),
  (12, .iload_n 1, 13, 0, 0, 0, 0, .null, []),
  (13, .aload_n 0, 14, 0, 0, 0, 0, .null, []),
  (14, .iload_n 2, 15, 0, 0, 0, 0, .null, []),
  (15, .invokevirtual 86, 18, 42, 0, 11, 359, .retAddr 2, []),
  (18, .ifCond .eq 7, 21, 25, 0, 0, 0, .null, []),
  (21, .iconst 0, 22, 0, 0, 0, 0, .int (nI 0), []),
  (22, .goto 4, 25, 26, 0, 0, 0, .null, []),
  (25, .iconst 1, 26, 0, 0, 0, 0, .int (nI 1), []),
  (26, .iadd, 27, 0, 0, 0, 0, .null, []),
  (27, .istore_n 1, 28, 0, 0, 0, 0, .null, []),
  (28, .iinc 2 1, 31, 0, 0, 0, 0, .null, []),
  (31, .goto (-27), 34, 4, 0, 0, 0, .null, []),
  (34, .iload_n 1, 35, 0, 0, 0, 0, .null, []),
  (35, .ireturn, 36, 0, 0, 0, 0, .int 0, [])]
def cd48 : List En := [(0, .iconst 0, 1, 0, 0, 0, 0, .int (nI 0), []),
  (1, .istore_n 2, 2, 0, 0, 0, 0, .null, []),
  (2, .iconst 0, 3, 0, 0, 0, 0, .int (nI 0), []),
  (3, .istore_n 3, 4, 0, 0, 0, 0, .null, []),
  (4, .iload_n 3, 5, 0, 0, 0, 0, .null, []),
  (5, .aload_n 0, 6, 0, 0, 0, 0, .null, []),
  (6, .getfield 22, 9, 11, 3, 0, 117, .int 0, []),
  (9, .if_icmp .ge 27, 12, 36, 0, 0, 0, .null, []),
  (12, .iload_n 2, 13, 0, 0, 0, 0, .null, []),
  (13, .aload_n 0, 14, 0, 0, 0, 0, .null, []),
  (14, .iload_n 3, 15, 0, 0, 0, 0, .null, []),
  (15, .iload_n 1, 16, 0, 0, 0, 0, .null, []),
  (16, .invokevirtual 89, 19, 46, 0, 11, 532, .retAddr 3, []),
  (19, .iconst (-1), 20, 0, 0, 0, 0, .int ((-1)), []),
  (20, .if_icmp .ne 7, 23, 27, 0, 0, 0, .null, []),
  (23, .iconst 0, 24, 0, 0, 0, 0, .int (nI 0), []),
  (24, .goto 4, 27, 28, 0, 0, 0, .null, []),
  (27, .iconst 1, 28, 0, 0, 0, 0, .int (nI 1), []),
  (28, .iadd, 29, 0, 0, 0, 0, .null, []),
  (29, .istore_n 2, 30, 0, 0, 0, 0, .null, []),
  (30, .iinc 3 1, 33, 0, 0, 0, 0, .null, []),
  (33, .goto (-29), 36, 4, 0, 0, 0, .null, []),
  (36, .iload_n 2, 37, 0, 0, 0, 0, .null, []),
  (37, .ireturn, 38, 0, 0, 0, 0, .int 0, [])]
def cd49 : List En := [(0, .iconst 0, 1, 0, 0, 0, 0, .int (nI 0), []),
  (1, .istore_n 2, 2, 0, 0, 0, 0, .null, []),
  (2, .iconst 0, 3, 0, 0, 0, 0, .int (nI 0), []),
  (3, .istore_n 3, 4, 0, 0, 0, 0, .null, []),
  (4, .iload_n 3, 5, 0, 0, 0, 0, .null, []),
  (5, .aload_n 0, 6, 0, 0, 0, 0, .null, []),
  (6, .getfield 22, 9, 11, 3, 0, 117, .int 0, []),
  (9, .if_icmp .ge 31, 12, 40, 0, 0, 0, .null, []),
  (12, .iload_n 2, 13, 0, 0, 0, 0, .null, []),
  (13, .aload_n 0, 14, 0, 0, 0, 0, .null, []),
  (14, .iload_n 3, 15, 0, 0, 0, 0, .null, []),
  (15, .iload_n 1, 16, 0, 0, 0, 0, .null, []),
  (16, .invokevirtual 89, 19, 46, 0, 11, 532, .retAddr 3, []),
  (19, .iconst (-1), 20, 0, 0, 0, 0, .int ((-1)), []),
  (20, .if_icmp .ne 7, 23, 27, 0, 0, 0, .null, []),
  (23, .iconst 0, 24, 0, 0, 0, 0, .int (nI 0), []),
  (24, .goto 8, 27, 32, 0, 0, 0, .null, []),
  (27, .aload_n 0, 28, 0, 0, 0, 0, .null, []),
  (28, .iload_n 3, 29, 0, 0, 0, 0, .null, []),
  (29, .invokevirtual 93, 32, 45, 0, 11, 569, .retAddr 2, []),
  (32, .iadd, 33, 0, 0, 0, 0, .null, []),
  (33, .istore_n 2, 34, 0, 0, 0, 0, .null, []),
  (34, .iinc 3 1, 37, 0, 0, 0, 0, .null, []),
  (37, .goto (-33), 40, 4, 0, 0, 0, .null, []),
  (40, .iload_n 2, 41, 0, 0, 0, 0, .null, []),
  (41, .ireturn, 42, 0, 0, 0, 0, .int 0, [])]
def cd50 : List En := [(0, .iconst 0, 1, 0, 0, 0, 0, .int (nI 0), []),
  (1, .istore_n 1, 2, 0, 0, 0, 0, .null, []),
  (2, .iconst 0, 3, 0, 0, 0, 0, .int (nI 0), []),
  (3, .istore_n 2, 4, 0, 0, 0, 0, .null, []),
  (4, .iload_n 2, 5, 0, 0, 0, 0, .null, []),
  (5, .aload_n 0, 6, 0, 0, 0, 0, .null, []),
  (6, .getfield 22, 9, 11, 3, 0, 117, .int 0, []),
  (9, .if_icmp .ge 27, 12, 36, 0, 0, 0, .null, []),
  (12, .iload_n 2, 13, 0, 0, 0, 0, .null, []),
  (13, .aload_n 0, 14, 0, 0, 0, 0, .null, []),
  (14, .getfield 34, 17, 11, 7, 0, 130, .null, []),
  (17, .arraylength, 18, 0, 0, 0, 0, .null, []),
  (18, .if_icmp .ge 18, 21, 36, 0, 0, 0, .null, []),
  (21, .iload_n 1, 22, 0, 0, 0, 0, .null, []),
  (22, .aload_n 0, 23, 0, 0, 0, 0, .null, []),
  (23, .getfield 34, 26, 11, 7, 0, 130, .null, []),
  (26, .iload_n 2, 27, 0, 0, 0, 0, .null, []),
  (27, .iaload, 28, 0, 0, 0, 0, .null, []),
  (28, .iadd, 29, 0, 0, 0, 0, .null, []),
  (29, .istore_n 1, 30, 0, 0, 0, 0, .null, []),
  (30, .iinc 2 1, 33, 0, 0, 0, 0, .null, []),
  (33, .goto (-29), 36, 4, 0, 0, 0, .null, []),
  (36, .iload_n 1, 37, 0, 0, 0, 0, .null, []),
  (37, .ireturn, 38, 0, 0, 0, 0, .int 0, [])]
def cd51 : List En := [(0, .iconst 0, 1, 0, 0, 0, 0, .int (nI 0), []),
  (1, .istore_n 1, 2, 0, 0, 0, 0, .null, []),
  (2, .iconst 0, 3, 0, 0, 0, 0, .int (nI 0), []),
  (3, .istore_n 2, 4, 0, 0, 0, 0, .null, []),
  (4, .iload_n 2, 5, 0, 0, 0, 0, .null, []),
  (5, .aload_n 0, 6, 0, 0, 0, 0, .null, []),
  (6, .getfield 22, 9, 11, 3, 0, 117, .int 0, []),
  (9, .if_icmp .ge 29, 12, 38, 0, 0, 0, .null, []),
  (12, .iload_n 2, 13, 0, 0, 0, 0, .null, []),
  (13, .aload_n 0, 14, 0, 0, 0, 0, .null, []),
  (14, .getfield 34, 17, 11, 7, 0, 130, .null, []),
  (17, .arraylength, 18, 0, 0, 0, 0, .null, []),
  (18, .if_icmp .ge 20, 21, 38, 0, 0, 0, .null, []),
  (21, .iload_n 1, 22, 0, 0, 0, 0, .null, []),
  (22, .aload_n 0, 23, 0, 0, 0, 0, .null, []),
  (23, .getfield 34, 26, 11, 7, 0, 130, .null, []),
  (26, .iload_n 2, 27, 0, 0, 0, 0, .null, []),
  (27, .iaload, 28, 0, 0, 0, 0, .null, []),
  (28, .invokestatic 97, 31, 901, 0, 1, 485, .null, []),
  (31, .istore_n 1, 32, 0, 0, 0, 0, .null, []),
  (32, .iinc 2 1, 35, 0, 0, 0, 0, .null, []),
  (35, .goto (-31), 38, 4, 0, 0, 0, .null, []),
  (38, .iload_n 1, 39, 0, 0, 0, 0, .null, []),
  (39, .ireturn, 40, 0, 0, 0, 0, .int 0, [])]
def cd52 : List En := [(0, .aload_n 0, 1, 0, 0, 0, 0, .null, []),
  (1, .getfield 9, 4, 11, 0, 0, 110, .int 0, []),
  (4, .bipush 10, 6, 0, 0, 0, 0, .int (nI 10), []),
  (6, .if_icmp .lt 6, 9, 12, 0, 0, 0, .null, []),
  (9, .ldc 102, 11, 0, 0, 0, 314, .int ((-1000000003)), []),
  (11, .ireturn, 12, 0, 0, 0, 0, .int 0, []),
  (12, .aload_n 0, 13, 0, 0, 0, 0, .null, []),
  (13, .dup, 14, 0, 0, 0, 0, .null, []),
  (14, .getfield 9, 17, 11, 0, 0, 110, .int 0, []),
  (17, .iconst 1, 18, 0, 0, 0, 0, .int (nI 1), []),
  (18, .iadd, 19, 0, 0, 0, 0, .null, []),
  (19, .putfield 9, 22, 11, 0, 0, 110, .int 0, []),
  (22, .aload_n 0, 23, 0, 0, 0, 0, .null, []),
  (23, .getfield 9, 26, 11, 0, 0, 110, .int 0, []),
  (26, .iconst 1, 27, 0, 0, 0, 0, .int (nI 1), []),
  (27, .isub, 28, 0, 0, 0, 0, .null, []),
  (28, .ireturn, 29, 0, 0, 0, 0, .int 0, [])]
def cd53 : List En := [(0, .aload_n 0, 1, 0, 0, 0, 0, .null, []),
  (1, .iload_n 1, 2, 0, 0, 0, 0, .null, []),
  (2, .invokevirtual 103, 5, 38, 0, 11, 335, .retAddr 2, []),
  (5, .ifCond .eq 26, 8, 31, 0, 0, 0, .null, []),
  (8, .aload_n 0, 9, 0, 0, 0, 0, .null, []),
  (9, .iload_n 2, 10, 0, 0, 0, 0, .null, []),
  (10, .invokevirtual 103, 13, 38, 0, 11, 335, .retAddr 2, []),
  (13, .ifCond .eq 18, 16, 31, 0, 0, 0, .null, []),
  (16, .iload_n 1, 17, 0, 0, 0, 0, .null, []),
  (17, .iload_n 2, 18, 0, 0, 0, 0, .null, []),
  (18, .if_icmp .eq 13, 21, 31, 0, 0, 0, .null, []),
  (21, .iload_n 3, 22, 0, 0, 0, 0, .null, []),
  (22, .iconst 1, 23, 0, 0, 0, 0, .int (nI 1), []),
  (23, .bipush 20, 25, 0, 0, 0, 0, .int (nI 20), []),
  (25, .invokestatic 106, 28, 24, 0, 0, 339, .retAddr 3, []),
  (28, .ifCond .ne 6, 31, 34, 0, 0, 0, .null, []),
  (31, .ldc 110, 33, 0, 0, 0, 342, .int ((-1000000001)), []),
  (33, .ireturn, 34, 0, 0, 0, 0, .int 0, []),
  (34, .aload_n 0, 35, 0, 0, 0, 0, .null, []),
  (35, .getfield 22, 38, 11, 3, 0, 117, .int 0, []),
  (38, .ifCond .lt 12, 41, 50, 0, 0, 0, .null, []),
  (41, .aload_n 0, 42, 0, 0, 0, 0, .null, []),
  (42, .getfield 22, 45, 11, 3, 0, 117, .int 0, []),
  (45, .bipush 16, 47, 0, 0, 0, 0, .int (nI 16), []),
  (47, .if_icmp .lt 6, 50, 53, 0, 0, 0, .null, []),
  (50, .ldc 102, 52, 0, 0, 0, 314, .int ((-1000000003)), []),
  (52, .ireturn, 53, 0, 0, 0, 0, .int 0, []),
  (53, .aload_n 0, 54, 0, 0, 0, 0, .null, []),
  (54, .getfield 22, 57, 11, 3, 0, 117, .int 0, []),
  (57, .istore 4, 59, 0, 0, 0, 0, .null, []),
  (59, .aload_n 0, 60, 0, 0, 0, 0, .null, []),
  (60, .getfield 25, 63, 11, 4, 0, 121, .null, []),
  (63, .iload 4, 65, 0, 0, 0, 0, .null, []),
  (65, .iload_n 1, 66, 0, 0, 0, 0, .null, []),
  (66, .iastore, 67, 0, 0, 0, 0, .null, []),
  (67, .aload_n 0, 68, 0, 0, 0, 0, .null, []),
  (68, .getfield 28, 71, 11, 5, 0, 124, .null, []),
  (71, .iload 4, 73, 0, 0, 0, 0, .null, []),
  (73, .iload_n 2, 74, 0, 0, 0, 0, .null, []),
  (74, .iastore, 75, 0, 0, 0, 0, .null, []),
  (75, .aload_n 0, 76, 0, 0, 0, 0, .null, []),
  (76, .getfield 31, 79, 11, 6, 0, 127, .null, []),
  (79, .iload 4, 81, 0, 0, 0, 0, .null, []),
  (81, .iload_n 3, 82, 0, 0, 0, 0, .null, []),
  (82, .iastore, 83, 0, 0, 0, 0, .null, []),
  (83, .aload_n 0, 84, 0, 0, 0, 0, .null, []),
  (84, .getfield 34, 87, 11, 7, 0, 130, .null, []),
  (87, .iload 4, 89, 0, 0, 0, 0, .null, []),
  (89, .aload_n 0, 90, 0, 0, 0, 0, .null, []),
  (90, .iconst 4, 91, 0, 0, 0, 0, .int (nI 4), []),
  (91, .invokevirtual 111, 94, 43, 0, 11, 343, .retAddr 2, []),
  (94, .iastore, 95, 0, 0, 0, 0, .null, []),
  (95, .aload_n 0, 96, 0, 0, 0, 0, .null, []),
  (96, .dup, 97, 0, 0, 0, 0, .null, []),
  (97, .getfield 22, 100, 11, 3, 0, 117, .int 0, []),
  (100, .iconst 1, 101, 0, 0, 0, 0, .int (nI 1), []),
  (101, .iadd, 102, 0, 0, 0, 0, .null, []),
  (102, .putfield 22, 105, 11, 3, 0, 117, .int 0, []),
  (105, .iload 4, 107, 0, 0, 0, 0, .null, []),
  (107, .ireturn, 108, 0, 0, 0, 0, .int 0, [])]
def cd54 : List En := [(0, .aload_n 0, 1, 0, 0, 0, 0, .null, []),
  (1, .iload_n 1, 2, 0, 0, 0, 0, .null, []),
  (2, .invokevirtual 82, 5, 39, 0, 11, 355, .retAddr 2, []),
  (5, .ifCond .ne 6, 8, 11, 0, 0, 0, .null, []),
  (8, .ldc 110, 10, 0, 0, 0, 342, .int ((-1000000001)), []),
  (10, .ireturn, 11, 0, 0, 0, 0, .int 0, []),
  (11, .aload_n 0, 12, 0, 0, 0, 0, .null, []),
  (12, .iload_n 1, 13, 0, 0, 0, 0, .null, []),
  (13, .invokevirtual 86, 16, 42, 0, 11, 359, .retAddr 2, []),
  (16, .iload_n 2, 17, 0, 0, 0, 0, .null, []),
  (17, .if_icmp .ne 6, 20, 23, 0, 0, 0, .null, []),
  (20, .ldc 114, 22, 0, 0, 0, 363, .int ((-1000000002)), []),
  (22, .ireturn, 23, 0, 0, 0, 0, .int 0, []),
  (23, .aload_n 0, 24, 0, 0, 0, 0, .null, []),
  (24, .getfield 40, 27, 11, 9, 0, 135, .null, []),
  (27, .iload_n 1, 28, 0, 0, 0, 0, .null, []),
  (28, .iload_n 2, 29, 0, 0, 0, 0, .null, []),
  (29, .ifCond .eq 7, 32, 36, 0, 0, 0, .null, []),
  (32, .iconst 1, 33, 0, 0, 0, 0, .int (nI 1), []),
  (33, .goto 4, 36, 37, 0, 0, 0, .null, []),
  (36, .iconst 0, 37, 0, 0, 0, 0, .int (nI 0), []),
  (37, .iastore, 38, 0, 0, 0, 0, .null, []),
  (38, .aload_n 0, 39, 0, 0, 0, 0, .null, []),
  (39, .invokevirtual 115, 42, 47, 2, 11, 364, .retAddr 1, []),
  (42, .ireturn, 43, 0, 0, 0, 0, .int 0, [])]
def cd55 : List En := [(0, .iload_n 1, 1, 0, 0, 0, 0, .null, []),
  (1, .ifCond .eq 11, 4, 12, 0, 0, 0, .null, []),
  (4, .aload_n 0, 5, 0, 0, 0, 0, .null, []),
  (5, .iload_n 1, 6, 0, 0, 0, 0, .null, []),
  (6, .invokevirtual 103, 9, 38, 0, 11, 335, .retAddr 2, []),
  (9, .ifCond .ne 6, 12, 15, 0, 0, 0, .null, []),
  (12, .ldc 110, 14, 0, 0, 0, 342, .int ((-1000000001)), []),
  (14, .ireturn, 15, 0, 0, 0, 0, .int 0, []),
  (15, .iload_n 1, 16, 0, 0, 0, 0, .null, []),
  (16, .aload_n 0, 17, 0, 0, 0, 0, .null, []),
  (17, .getfield 43, 20, 11, 10, 0, 136, .int 0, []),
  (20, .if_icmp .ne 6, 23, 26, 0, 0, 0, .null, []),
  (23, .ldc 114, 25, 0, 0, 0, 363, .int ((-1000000002)), []),
  (25, .ireturn, 26, 0, 0, 0, 0, .int 0, []),
  (26, .aload_n 0, 27, 0, 0, 0, 0, .null, []),
  (27, .getfield 43, 30, 11, 10, 0, 136, .int 0, []),
  (30, .istore_n 2, 31, 0, 0, 0, 0, .null, []),
  (31, .aload_n 0, 32, 0, 0, 0, 0, .null, []),
  (32, .iload_n 1, 33, 0, 0, 0, 0, .null, []),
  (33, .putfield 43, 36, 11, 10, 0, 136, .int 0, []),
  (36, .aload_n 0, 37, 0, 0, 0, 0, .null, []),
  (37, .getfield 61, 40, 11, 15, 0, 149, .null, []),
  (40, .invokevirtual 119, 43, 86, 0, 15, 376, .retAddr 1, []),
  (43, .iload_n 2, 44, 0, 0, 0, 0, .null, []),
  (44, .ireturn, 45, 0, 0, 0, 0, .int 0, [])]
def cd56 : List En := [(0, .aload_n 0, 1, 0, 0, 0, 0, .null, []),
  (1, .invokevirtual 122, 4, 50, 2, 11, 499, .retAddr 1, []),
  (4, .istore_n 1, 5, 0, 0, 0, 0, .null, []),
  (5, .iconst 0, 6, 0, 0, 0, 0, .int (nI 0), []),
  (6, .istore_n 2, 7, 0, 0, 0, 0, .null, []),
  (7, .iload_n 2, 8, 0, 0, 0, 0, .null, []),
  (8, .aload_n 0, 9, 0, 0, 0, 0, .null, []),
  (9, .getfield 22, 12, 11, 3, 0, 117, .int 0, []),
  (12, .if_icmp .ge 29, 15, 41, 0, 0, 0, .null, []),
  (15, .iload_n 2, 16, 0, 0, 0, 0, .null, []),
  (16, .aload_n 0, 17, 0, 0, 0, 0, .null, []),
  (17, .getfield 34, 20, 11, 7, 0, 130, .null, []),
  (20, .arraylength, 21, 0, 0, 0, 0, .null, []),
  (21, .if_icmp .ge 20, 24, 41, 0, 0, 0, .null, []),
  (24, .aload_n 0, 25, 0, 0, 0, 0, .null, []),
  (25, .getfield 34, 28, 11, 7, 0, 130, .null, []),
  (28, .iload_n 2, 29, 0, 0, 0, 0, .null, []),
  (29, .aload_n 0, 30, 0, 0, 0, 0, .null, []),
  (30, .iconst 4, 31, 0, 0, 0, 0, .int (nI 4), []),
  (31, .invokevirtual 111, 34, 43, 0, 11, 343, .retAddr 2, []),
  (34, .iastore, 35, 0, 0, 0, 0, .null, []),
  (35, .iinc 2 1, 38, 0, 0, 0, 0, .null, []),
  (38, .goto (-31), 41, 7, 0, 0, 0, .null, []),
  (41, .aload_n 0, 42, 0, 0, 0, 0, .null, []),
  (42, .getfield 61, 45, 11, 15, 0, 149, .null, []),
  (45, .invokevirtual 119, 48, 86, 0, 15, 376, .retAddr 1, []),
  (48, .iload_n 1, 49, 0, 0, 0, 0, .null, []),
  (49, .aload_n 0, 50, 0, 0, 0, 0, .null, []),
  (50, .invokevirtual 122, 53, 50, 2, 11, 499, .retAddr 1, []),
  (53, .isub, 54, 0, 0, 0, 0, .null, []),
  (54, .ireturn, 55, 0, 0, 0, 0, .int 0, [])]
def cd57 : List En := [(0, .iload_n 1, 1, 0, 0, 0, 0, .null, []),
  (1, .iconst 0, 2, 0, 0, 0, 0, .int (nI 0), []),
  (2, .bipush 6, 4, 0, 0, 0, 0, .int (nI 6), []),
  (4, .invokestatic 106, 7, 24, 0, 0, 339, .retAddr 3, []),
  (7, .ifCond .eq 20, 10, 27, 0, 0, 0, .null, []),
  (10, .iload_n 2, 11, 0, 0, 0, 0, .null, []),
  (11, .getstatic 125, 14, 1001, 0, 1, 511, .null, []),
  (14, .iload_n 1, 15, 0, 0, 0, 0, .null, []),
  (15, .iaload, 16, 0, 0, 0, 0, .null, []),
  (16, .getstatic 128, 19, 1002, 0, 1, 513, .null, []),
  (19, .iload_n 1, 20, 0, 0, 0, 0, .null, []),
  (20, .iaload, 21, 0, 0, 0, 0, .null, []),
  (21, .invokestatic 106, 24, 24, 0, 0, 339, .retAddr 3, []),
  (24, .ifCond .ne 6, 27, 30, 0, 0, 0, .null, []),
  (27, .ldc 110, 29, 0, 0, 0, 342, .int ((-1000000001)), []),
  (29, .ireturn, 30, 0, 0, 0, 0, .int 0, []),
  (30, .aload_n 0, 31, 0, 0, 0, 0, .null, []),
  (31, .getfield 49, 34, 11, 12, 0, 142, .null, []),
  (34, .iload_n 1, 35, 0, 0, 0, 0, .null, []),
  (35, .iaload, 36, 0, 0, 0, 0, .null, []),
  (36, .istore_n 3, 37, 0, 0, 0, 0, .null, []),
  (37, .aload_n 0, 38, 0, 0, 0, 0, .null, []),
  (38, .getfield 49, 41, 11, 12, 0, 142, .null, []),
  (41, .iload_n 1, 42, 0, 0, 0, 0, .null, []),
  (42, .iload_n 2, 43, 0, 0, 0, 0, .null, []),
  (43, .iastore, 44, 0, 0, 0, 0, .null, []),
  (44, .iload_n 3, 45, 0, 0, 0, 0, .null, []),
  (45, .ireturn, 46, 0, 0, 0, 0, .int 0, [])]
def cd58 : List En := [(0, .iload_n 1, 1, 0, 0, 0, 0, .null, []),
  (1, .iconst 1, 2, 0, 0, 0, 0, .int (nI 1), []),
  (2, .if_icmp .ge 5, 5, 7, 0, 0, 0, .null, []),
  (5, .iconst 0, 6, 0, 0, 0, 0, .int (nI 0), []),
  (6, .ireturn, 7, 0, 0, 0, 0, .int 0, []),
  (7, .aload_n 0, 8, 0, 0, 0, 0, .null, []),
  (8, .aload_n 0, 9, 0, 0, 0, 0, .null, []),
  (9, .getfield 46, 12, 11, 11, 0, 140, .int 0, []),
  (12, .i2l, 13, 0, 0, 0, 0, .null, []),
  (13, .ldc2_w 131, 16, 0, 0, 0, 436, .long 16807, []),
  (16, .lmul, 17, 0, 0, 0, 0, .null, []),
  (17, .ldc2_w 133, 20, 0, 0, 0, 437, .long 2147483647, []),
  (20, .lrem, 21, 0, 0, 0, 0, .null, []),
  (21, .l2i, 22, 0, 0, 0, 0, .null, []),
  (22, .putfield 46, 25, 11, 11, 0, 140, .int 0, []),
  (25, .aload_n 0, 26, 0, 0, 0, 0, .null, []),
  (26, .getfield 46, 29, 11, 11, 0, 140, .int 0, []),
  (29, .iload_n 1, 30, 0, 0, 0, 0, .null, []),
  (30, .irem, 31, 0, 0, 0, 0, .null, []),
  (31, .ireturn, 32, 0, 0, 0, 0, .int 0, [])]
def cd59_0 : List En := [(0, .iconst 0, 1, 0, 0, 0, 0, .int (nI 0), []),
  (1, .istore_n 3, 2, 0, 0, 0, 0, .null, []),
  (2, .iload_n 3, 3, 0, 0, 0, 0, .null, []),
  (3, .aload_n 0, 4, 0, 0, 0, 0, .null, []),
  (4, .getfield 37, 7, 11, 8, 0, 133, .null, []),
  (7, .arraylength, 8, 0, 0, 0, 0, .null, []),
  (8, .if_icmp .ge 31, 11, 39, 0, 0, 0, .null, []),
  (11, .aload_n 0, 12, 0, 0, 0, 0, .null, []),
  (12, .getfield 37, 15, 11, 8, 0, 133, .null, []),
  (15, .iload_n 3, 16, 0, 0, 0, 0, .null, []),
  (16, .dup2, 17, 0, 0, 0, 0, .null, []),
  (17, .iaload, 18, 0, 0, 0, 0, .null, []),
  (18, .aload_n 1, 19, 0, 0, 0, 0, .null, []),
  (19, .iload_n 3, 20, 0, 0, 0, 0, .null, []),
  (20, .invokevirtual 135, 23, 90, 0, 15, 454, .retAddr 2, []),
  (23, .ifCond .eq 7, 26, 30, 0, 0, 0, .null, []),
  (26, .iconst 1, 27, 0, 0, 0, 0, .int (nI 1), []),
  (27, .goto 4, 30, 31, 0, 0, 0, .null, []),
  (30, .iconst 0, 31, 0, 0, 0, 0, .int (nI 0), []),
  (31, .iadd, 32, 0, 0, 0, 0, .null, []),
  (32, .iastore, 33, 0, 0, 0, 0, .null, []),
  (33, .iinc 3 1, 36, 0, 0, 0, 0, .null, []),
  (36, .goto (-34), 39, 2, 0, 0, 0, .null, []),
  (39, .iconst 1, 40, 0, 0, 0, 0, .int (nI 1), []),
  (40, .istore_n 3, 41, 0, 0, 0, 0, .null, []),
  (41, .iload_n 3, 42, 0, 0, 0, 0, .null, []),
  (42, .aload_n 0, 43, 0, 0, 0, 0, .null, []),
  (43, .getfield 15, 46, 11, 1, 0, 113, .null, []),
  (46, .arraylength, 47, 0, 0, 0, 0, .null, []),
  (47, .if_icmp .ge 31, 50, 78, 0, 0, 0, .null, []),
  (50, .aload_n 0, 51, 0, 0, 0, 0, .null, []),
  (51, .getfield 15, 54, 11, 1, 0, 113, .null, []),
  (54, .iload_n 3, 55, 0, 0, 0, 0, .null, []),
  (55, .dup2, 56, 0, 0, 0, 0, .null, []),
  (56, .iaload, 57, 0, 0, 0, 0, .null, []),
  (57, .aload_n 1, 58, 0, 0, 0, 0, .null, []),
  (58, .iload_n 3, 59, 0, 0, 0, 0, .null, []),
  (59, .invokevirtual 138, 62, 91, 0, 15, 458, .retAddr 2, []),
  (62, .ifCond .eq 7, 65, 69, 0, 0, 0, .null, []),
  (65, .iconst 1, 66, 0, 0, 0, 0, .int (nI 1), []),
  (66, .goto 4, 69, 70, 0, 0, 0, .null, []),
  (69, .iconst 0, 70, 0, 0, 0, 0, .int (nI 0), []),
  (70, .iadd, 71, 0, 0, 0, 0, .null, []),
  (71, .iastore, 72, 0, 0, 0, 0, .null, []),
  (72, .iinc 3 1, 75, 0, 0, 0, 0, .null, []),
  (75, .goto (-34), 78, 41, 0, 0, 0, .null, []),
  (78, .iload_n 2, 79, 0, 0, 0, 0, .null, []),
  (79, .ifCond .lt 22, 82, 101, 0, 0, 0, .null, []),
  (82, .iload_n 2, 83, 0, 0, 0, 0, .null, []),
  (83, .aload_n 0, 84, 0, 0, 0, 0, .null, [])]
def cd59_1 : List En := [(84, .getfield 55, 87, 11, 14, 0, 146, .null, []),
  (87, .arraylength, 88, 0, 0, 0, 0, .null, []),
  (88, .if_icmp .ge 13, 91, 101, 0, 0, 0, .null, []),
  (91, .aload_n 0, 92, 0, 0, 0, 0, .null, []),
  (92, .getfield 55, 95, 11, 14, 0, 146, .null, []),
  (95, .iload_n 2, 96, 0, 0, 0, 0, .null, []),
  (96, .dup2, 97, 0, 0, 0, 0, .null, []),
  (97, .iaload, 98, 0, 0, 0, 0, .null, []),
  (98, .iconst 1, 99, 0, 0, 0, 0, .int (nI 1), []),
  (99, .iadd, 100, 0, 0, 0, 0, .null, []),
  (100, .iastore, 101, 0, 0, 0, 0, .null, []),
  (101, .aload_n 1, 102, 0, 0, 0, 0, .null, []),
  (102, .invokevirtual 141, 105, 89, 0, 15, 462, .retAddr 1, []),
  (105, .istore_n 3, 106, 0, 0, 0, 0, .null, []),
  (106, .iload_n 2, 107, 0, 0, 0, 0, .null, []),
  (107, .iconst 1, 108, 0, 0, 0, 0, .int (nI 1), []),
  (108, .if_icmp .ne 21, 111, 129, 0, 0, 0, .null, []),
  (111, .aload_n 0, 112, 0, 0, 0, 0, .null, []),
  (112, .iload_n 3, 113, 0, 0, 0, 0, .null, []),
  (113, .invokevirtual 103, 116, 38, 0, 11, 335, .retAddr 2, []),
  (116, .ifCond .eq 13, 119, 129, 0, 0, 0, .null, []),
  (119, .aload_n 0, 120, 0, 0, 0, 0, .null, []),
  (120, .getfield 19, 123, 11, 2, 0, 115, .null, []),
  (123, .iload_n 3, 124, 0, 0, 0, 0, .null, []),
  (124, .dup2, 125, 0, 0, 0, 0, .null, []),
  (125, .iaload, 126, 0, 0, 0, 0, .null, []),
  (126, .iconst 1, 127, 0, 0, 0, 0, .int (nI 1), []),
  (127, .iadd, 128, 0, 0, 0, 0, .null, []),
  (128, .iastore, 129, 0, 0, 0, 0, .null, []),
  (129, .return_, 130, 0, 0, 0, 0, .null, [])]
def cd59 : List En := cd59_0 ++ (cd59_1)
def cd60 : List En := [(0, .aload_n 0, 1, 0, 0, 0, 0, .null, []),
  (1, .invokevirtual 144, 4, 41, 0, 11, 476, .retAddr 1, []),
  (4, .ifCond .eq 17, 7, 21, 0, 0, 0, .null, []),
  (7, .aload_n 1, 8, 0, 0, 0, 0, .null, []),
  (8, .getfield 148, 11, 15, 2, 1, 89, .int 0, []),
  (11, .aload_n 0, 12, 0, 0, 0, 0, .null, []),
  (12, .getfield 61, 15, 11, 15, 0, 149, .null, []),
  (15, .getfield 148, 18, 15, 2, 1, 89, .int 0, []),
  (18, .if_icmp .ge 19, 21, 37, 0, 0, 0, .null, []),
  (21, .aload_n 1, 22, 0, 0, 0, 0, .null, []),
  (22, .aload_n 0, 23, 0, 0, 0, 0, .null, []),
  (23, .getfield 61, 26, 11, 15, 0, 149, .null, []),
  (26, .invokestatic 75, 29, 93, 0, 0, 306, .retAddr 2, []),
  (29, .aload_n 0, 30, 0, 0, 0, 0, .null, []),
  (30, .aload_n 0, 31, 0, 0, 0, 0, .null, []),
  (31, .getfield 52, 34, 11, 13, 0, 143, .int 0, []),
  (34, .putfield 65, 37, 11, 16, 0, 151, .int 0, []),
  (37, .return_, 38, 0, 0, 0, 0, .null, [])]
def cd61 : List En := [(0, .aload_n 1, 1, 0, 0, 0, 0, .null, []),
  (1, .getfield 148, 4, 15, 2, 1, 89, .int 0, []),
  (4, .iconst 1, 5, 0, 0, 0, 0, .int (nI 1), []),
  (5, .if_icmp .ge 7, 8, 12, 0, 0, 0, .null, []),
  (8, .iconst 0, 9, 0, 0, 0, 0, .int (nI 0), []),
  (9, .goto 13, 12, 22, 0, 0, 0, .null, []),
  (12, .aload_n 0, 13, 0, 0, 0, 0, .null, []),
  (13, .iconst 2, 14, 0, 0, 0, 0, .int (nI 2), []),
  (14, .invokevirtual 111, 17, 43, 0, 11, 343, .retAddr 2, []),
  (17, .aload_n 1, 18, 0, 0, 0, 0, .null, []),
  (18, .getfield 148, 21, 15, 2, 1, 89, .int 0, []),
  (21, .idiv, 22, 0, 0, 0, 0, .null, []),
  (22, .ireturn, 23, 0, 0, 0, 0, .int 0, [])]
def cd62_0 : List En := [(0, .aload_n 0, 1, 0, 0, 0, 0, .null, []),
  (1, .invokevirtual 144, 4, 41, 0, 11, 476, .retAddr 1, []),
  (4, .ifCond .eq 20, 7, 24, 0, 0, 0, .null, []),
  (7, .aload_n 0, 8, 0, 0, 0, 0, .null, []),
  (8, .iconst 3, 9, 0, 0, 0, 0, .int (nI 3), []),
  (9, .invokevirtual 111, 12, 43, 0, 11, 343, .retAddr 2, []),
  (12, .aload_n 0, 13, 0, 0, 0, 0, .null, []),
  (13, .aload_n 0, 14, 0, 0, 0, 0, .null, []),
  (14, .getfield 61, 17, 11, 15, 0, 149, .null, []),
  (17, .invokevirtual 151, 20, 61, 0, 11, 484, .retAddr 2, []),
  (20, .imul, 21, 0, 0, 0, 0, .null, []),
  (21, .goto 4, 24, 25, 0, 0, 0, .null, []),
  (24, .iconst 0, 25, 0, 0, 0, 0, .int (nI 0), []),
  (25, .istore_n 2, 26, 0, 0, 0, 0, .null, []),
  (26, .iconst 0, 27, 0, 0, 0, 0, .int (nI 0), []),
  (27, .istore_n 3, 28, 0, 0, 0, 0, .null, []),
  (28, .iload_n 3, 29, 0, 0, 0, 0, .null, []),
  (29, .aload_n 0, 30, 0, 0, 0, 0, .null, []),
  (30, .getfield 22, 33, 11, 3, 0, 117, .int 0, []),
  (33, .if_icmp .ge 97, 36, 130, 0, 0, 0, .null, []),
  (36, .iload_n 3, 37, 0, 0, 0, 0, .null, []),
  (37, .aload_n 0, 38, 0, 0, 0, 0, .null, []),
  (38, .getfield 34, 41, 11, 7, 0, 130, .null, []),
  (41, .arraylength, 42, 0, 0, 0, 0, .null, []),
  (42, .if_icmp .ge 88, 45, 130, 0, 0, 0, .null, []),
  (45, .iload_n 3, 46, 0, 0, 0, 0, .null, []),
  (46, .aload_n 1, 47, 0, 0, 0, 0, .null, []),
  (47, .arraylength, 48, 0, 0, 0, 0, .null, []),
  (48, .if_icmp .ge 82, 51, 130, 0, 0, 0, .null, []),
  (51, .aload_n 0, 52, 0, 0, 0, 0, .null, []),
  (52, .getfield 34, 55, 11, 7, 0, 130, .null, []),
  (55, .iload_n 3, 56, 0, 0, 0, 0, .null, []),
  (56, .iaload, 57, 0, 0, 0, 0, .null, []),
  (57, .aload_n 0, 58, 0, 0, 0, 0, .null, []),
  (58, .getfield 34, 61, 11, 7, 0, 130, .null, []),
  (61, .iload_n 3, 62, 0, 0, 0, 0, .null, []),
  (62, .iaload, 63, 0, 0, 0, 0, .null, []),
  (63, .aload_n 0, 64, 0, 0, 0, 0, .null, []),
  (64, .iconst 1, 65, 0, 0, 0, 0, .int (nI 1), []),
  (65, .invokevirtual 111, 68, 43, 0, 11, 343, .retAddr 2, []),
  (68, .imul, 69, 0, 0, 0, 0, .null, []),
  (69, .bipush 100, 71, 0, 0, 0, 0, .int (nI 100), []),
  (71, .idiv, 72, 0, 0, 0, 0, .null, []),
  (72, .isub, 73, 0, 0, 0, 0, .null, []),
  (73, .aload_n 1, 74, 0, 0, 0, 0, .null, []),
  (74, .iload_n 3, 75, 0, 0, 0, 0, .null, []),
  (75, .iaload, 76, 0, 0, 0, 0, .null, []),
  (76, .iadd, 77, 0, 0, 0, 0, .null, []),
  (77, .istore 4, 79, 0, 0, 0, 0, .null, []),
  (79, .iload 4, 81, 0, 0, 0, 0, .null, [])]
def cd62_1 : List En := [(81, .aload_n 0, 82, 0, 0, 0, 0, .null, []),
  (82, .getfield 61, 85, 11, 15, 0, 149, .null, []),
  (85, .iload_n 3, 86, 0, 0, 0, 0, .null, []),
  (86, .invokevirtual 135, 89, 90, 0, 15, 454, .retAddr 2, []),
  (89, .ifCond .eq 7, 92, 96, 0, 0, 0, .null, []),
  (92, .iload_n 2, 93, 0, 0, 0, 0, .null, []),
  (93, .goto 4, 96, 97, 0, 0, 0, .null, []),
  (96, .iconst 0, 97, 0, 0, 0, 0, .int (nI 0), []),
  (97, .iadd, 98, 0, 0, 0, 0, .null, []),
  (98, .istore 4, 100, 0, 0, 0, 0, .null, []),
  (100, .aload_n 0, 101, 0, 0, 0, 0, .null, []),
  (101, .getfield 34, 104, 11, 7, 0, 130, .null, []),
  (104, .iload_n 3, 105, 0, 0, 0, 0, .null, []),
  (105, .iload 4, 107, 0, 0, 0, 0, .null, []),
  (107, .aload_n 0, 108, 0, 0, 0, 0, .null, []),
  (108, .iconst 4, 109, 0, 0, 0, 0, .int (nI 4), []),
  (109, .invokevirtual 111, 112, 43, 0, 11, 343, .retAddr 2, []),
  (112, .invokestatic 97, 115, 901, 0, 1, 485, .null, []),
  (115, .aload_n 0, 116, 0, 0, 0, 0, .null, []),
  (116, .iconst 5, 117, 0, 0, 0, 0, .int (nI 5), []),
  (117, .invokevirtual 111, 120, 43, 0, 11, 343, .retAddr 2, []),
  (120, .invokestatic 155, 123, 902, 0, 2, 488, .null, []),
  (123, .iastore, 124, 0, 0, 0, 0, .null, []),
  (124, .iinc 3 1, 127, 0, 0, 0, 0, .null, []),
  (127, .goto (-99), 130, 28, 0, 0, 0, .null, []),
  (130, .return_, 131, 0, 0, 0, 0, .null, [])]
def cd62 : List En := cd62_0 ++ (cd62_1)
def cd63 : List En := [(0, .aload_n 0, 1, 0, 0, 0, 0, .null, []),
  (1, .invokespecial 3, 4, 900, 0, 0, 193, .null, []),
  (4, .aload_n 0, 5, 0, 0, 0, 0, .null, []),
  (5, .iconst 5, 6, 0, 0, 0, 0, .int (nI 5), []),
  (6, .anewarray 9, 9, 0, 0, 0, 194, .null, []),
  (9, .putfield 11, 12, 12, 0, 0, 197, .null, []),
  (12, .aload_n 0, 13, 0, 0, 0, 0, .null, []),
  (13, .iconst 0, 14, 0, 0, 0, 0, .int (nI 0), []),
  (14, .putfield 17, 17, 12, 1, 0, 198, .int 0, []),
  (17, .iconst 0, 18, 0, 0, 0, 0, .int (nI 0), []),
  (18, .istore_n 1, 19, 0, 0, 0, 0, .null, []),
  (19, .iload_n 1, 20, 0, 0, 0, 0, .null, []),
  (20, .aload_n 0, 21, 0, 0, 0, 0, .null, []),
  (21, .getfield 11, 24, 12, 0, 0, 197, .null, []),
  (24, .arraylength, 25, 0, 0, 0, 0, .null, []),
  (25, .if_icmp .ge 22, 28, 47, 0, 0, 0, .null, []),
  (28, .aload_n 0, 29, 0, 0, 0, 0, .null, []),
  (29, .getfield 11, 32, 12, 0, 0, 197, .null, []),
  (32, .iload_n 1, 33, 0, 0, 0, 0, .null, []),
  (33, .new 9, 36, 11, 17, 0, 194, .null, []),
  (36, .dup, 37, 0, 0, 0, 0, .null, []),
  (37, .invokespecial 21, 40, 36, 0, 11, 196, .retAddr 1, []),
  (40, .aastore, 41, 0, 0, 0, 0, .null, []),
  (41, .iinc 1 1, 44, 0, 0, 0, 0, .null, []),
  (44, .goto (-25), 47, 19, 0, 0, 0, .null, []),
  (47, .return_, 48, 0, 0, 0, 0, .null, [])]
def cd64 : List En := [(0, .aload_n 0, 1, 0, 0, 0, 0, .null, []),
  (1, .getfield 17, 4, 12, 1, 0, 198, .int 0, []),
  (4, .ifCond .lt 28, 7, 32, 0, 0, 0, .null, []),
  (7, .aload_n 0, 8, 0, 0, 0, 0, .null, []),
  (8, .getfield 17, 11, 12, 1, 0, 198, .int 0, []),
  (11, .aload_n 0, 12, 0, 0, 0, 0, .null, []),
  (12, .getfield 11, 15, 12, 0, 0, 197, .null, []),
  (15, .arraylength, 16, 0, 0, 0, 0, .null, []),
  (16, .if_icmp .ge 16, 19, 32, 0, 0, 0, .null, []),
  (19, .aload_n 1, 20, 0, 0, 0, 0, .null, []),
  (20, .aload_n 0, 21, 0, 0, 0, 0, .null, []),
  (21, .getfield 11, 24, 12, 0, 0, 197, .null, []),
  (24, .aload_n 0, 25, 0, 0, 0, 0, .null, []),
  (25, .getfield 17, 28, 12, 1, 0, 198, .int 0, []),
  (28, .aaload, 29, 0, 0, 0, 0, .null, []),
  (29, .invokestatic 22, 32, 37, 0, 0, 303, .retAddr 2, []),
  (32, .return_, 33, 0, 0, 0, 0, .null, [])]
def cd65 : List En := [(0, .iload_n 1, 1, 0, 0, 0, 0, .null, []),
  (1, .invokestatic 26, 4, 25, 0, 0, 319, .retAddr 1, []),
  (4, .ifCond .ne 25, 7, 29, 0, 0, 0, .null, []),
  (7, .aload_n 0, 8, 0, 0, 0, 0, .null, []),
  (8, .dup, 9, 0, 0, 0, 0, .null, []),
  (9, .getfield 17, 12, 12, 1, 0, 198, .int 0, []),
  (12, .iconst 1, 13, 0, 0, 0, 0, .int (nI 1), []),
  (13, .iadd, 14, 0, 0, 0, 0, .null, []),
  (14, .putfield 17, 17, 12, 1, 0, 198, .int 0, []),
  (17, .aload_n 0, 18, 0, 0, 0, 0, .null, []),
  (18, .getfield 17, 21, 12, 1, 0, 198, .int 0, []),
  (21, .iconst 4, 22, 0, 0, 0, 0, .int (nI 4), []),
  (22, .if_icmp .le 7, 25, 29, 0, 0, 0, .null, []),
  (25, .aload_n 0, 26, 0, 0, 0, 0, .null, []),
  (26, .invokevirtual 30, 29, 66, 2, 12, 323, .retAddr 1, []),
  (29, .iload_n 1, 30, 0, 0, 0, 0, .null, []),
  (30, .ireturn, 31, 0, 0, 0, 0, .int 0, [])]
def cd66 : List En := [(0, .aload_n 0, 1, 0, 0, 0, 0, .null, []),
  (1, .getfield 11, 4, 12, 0, 0, 197, .null, []),
  (4, .iconst 0, 5, 0, 0, 0, 0, .int (nI 0), []),
  (5, .aaload, 6, 0, 0, 0, 0, .null, []),
  (6, .astore_n 1, 7, 0, 0, 0, 0, .null, []),
  (7, .iconst 1, 8, 0, 0, 0, 0, .int (nI 1), []),
  (8, .istore_n 2, 9, 0, 0, 0, 0, .null, []),
  (9, .iload_n 2, 10, 0, 0, 0, 0, .null, []),
  (10, .aload_n 0, 11, 0, 0, 0, 0, .null, []),
  (11, .getfield 11, 14, 12, 0, 0, 197, .null, []),
  (14, .arraylength, 15, 0, 0, 0, 0, .null, []),
  (15, .if_icmp .ge 23, 18, 38, 0, 0, 0, .null, []),
  (18, .aload_n 0, 19, 0, 0, 0, 0, .null, []),
  (19, .getfield 11, 22, 12, 0, 0, 197, .null, []),
  (22, .iload_n 2, 23, 0, 0, 0, 0, .null, []),
  (23, .iconst 1, 24, 0, 0, 0, 0, .int (nI 1), []),
  (24, .isub, 25, 0, 0, 0, 0, .null, []),
  (25, .aload_n 0, 26, 0, 0, 0, 0, .null, []),
  (26, .getfield 11, 29, 12, 0, 0, 197, .null, []),
  (29, .iload_n 2, 30, 0, 0, 0, 0, .null, []),
  (30, .aaload, 31, 0, 0, 0, 0, .null, []),
  (31, .aastore, 32, 0, 0, 0, 0, .null, []),
  (32, .iinc 2 1, 35, 0, 0, 0, 0, .null, []),
  (35, .goto (-26), 38, 9, 0, 0, 0, .null, []),
  (38, .aload_n 0, 39, 0, 0, 0, 0, .null, []),
  (39, .getfield 11, 42, 12, 0, 0, 197, .null, []),
  (42, .aload_n 0, 43, 0, 0, 0, 0, .null, []),
  (43, .getfield 11, 46, 12, 0, 0, 197, .null, []),
  (46, .arraylength, 47, 0, 0, 0, 0, .null, []),
  (47, .iconst 1, 48, 0, 0, 0, 0, .int (nI 1), []),
  (48, .isub, 49, 0, 0, 0, 0, .null, []),
  (49, .aload_n 1, 50, 0, 0, 0, 0, .null, []),
  (50, .aastore, 51, 0, 0, 0, 0, .null, []),
  (51, .aload_n 0, 52, 0, 0, 0, 0, .null, []),
  (52, .dup, 53, 0, 0, 0, 0, .null, []),
  (53, .getfield 17, 56, 12, 1, 0, 198, .int 0, []),
  (56, .iconst 1, 57, 0, 0, 0, 0, .int (nI 1), []),
  (57, .isub, 58, 0, 0, 0, 0, .null, []),
  (58, .putfield 17, 61, 12, 1, 0, 198, .int 0, []),
  (61, .return_, 62, 0, 0, 0, 0, .null, [])]
def cd67 : List En := [(0, .aload_n 0, 1, 0, 0, 0, 0, .null, []),
  (1, .getfield 17, 4, 12, 1, 0, 198, .int 0, []),
  (4, .iconst 1, 5, 0, 0, 0, 0, .int (nI 1), []),
  (5, .if_icmp .lt 15, 8, 20, 0, 0, 0, .null, []),
  (8, .aload_n 0, 9, 0, 0, 0, 0, .null, []),
  (9, .getfield 17, 12, 12, 1, 0, 198, .int 0, []),
  (12, .aload_n 0, 13, 0, 0, 0, 0, .null, []),
  (13, .getfield 11, 16, 12, 0, 0, 197, .null, []),
  (16, .arraylength, 17, 0, 0, 0, 0, .null, []),
  (17, .if_icmp .le 6, 20, 23, 0, 0, 0, .null, []),
  (20, .ldc 33, 22, 0, 0, 0, 633, .int ((-1000000002)), []),
  (22, .ireturn, 23, 0, 0, 0, 0, .int 0, []),
  (23, .aload_n 0, 24, 0, 0, 0, 0, .null, []),
  (24, .dup, 25, 0, 0, 0, 0, .null, []),
  (25, .getfield 17, 28, 12, 1, 0, 198, .int 0, []),
  (28, .iconst 1, 29, 0, 0, 0, 0, .int (nI 1), []),
  (29, .isub, 30, 0, 0, 0, 0, .null, []),
  (30, .putfield 17, 33, 12, 1, 0, 198, .int 0, []),
  (33, .aload_n 0, 34, 0, 0, 0, 0, .null, []),
  (34, .getfield 11, 37, 12, 0, 0, 197, .null, []),
  (37, .aload_n 0, 38, 0, 0, 0, 0, .null, []),
  (38, .getfield 17, 41, 12, 1, 0, 198, .int 0, []),
  (41, .aaload, 42, 0, 0, 0, 0, .null, []),
  (42, .aload_n 1, 43, 0, 0, 0, 0, .null, []),
  (43, .invokestatic 22, 46, 37, 0, 0, 303, .retAddr 2, []),
  (46, .aload_n 0, 47, 0, 0, 0, 0, .null, []),
  (47, .getfield 17, 50, 12, 1, 0, 198, .int 0, []),
  (50, .ireturn, 51, 0, 0, 0, 0, .int 0, [])]
def cd68 : List En := [(0, .aload_n 0, 1, 0, 0, 0, 0, .null, []),
  (1, .invokespecial 3, 4, 900, 0, 0, 245, .null, []),
  (4, .aload_n 0, 5, 0, 0, 0, 0, .null, []),
  (5, .bipush 60, 7, 0, 0, 0, 0, .int (nI 60), []),
  (7, .newarray .char, 9, 0, 0, 0, 0, .null, []),
  (9, .putfield 9, 12, 13, 0, 0, 246, .null, []),
  (12, .aload_n 0, 13, 0, 0, 0, 0, .null, []),
  (13, .iconst 0, 14, 0, 0, 0, 0, .int (nI 0), []),
  (14, .putfield 15, 17, 13, 1, 0, 247, .int 0, []),
  (17, .aload_n 0, 18, 0, 0, 0, 0, .null, []),
  (18, .iconst 0, 19, 0, 0, 0, 0, .int (nI 0), []),
  (19, .putfield 19, 22, 13, 2, 0, 249, .int 0, []),
  (22, .aload_n 0, 23, 0, 0, 0, 0, .null, []),
  (23, .iconst 3, 24, 0, 0, 0, 0, .int (nI 3), []),
  (24, .newarray .int, 26, 0, 0, 0, 0, .null, []),
  (26, .putfield 22, 29, 13, 3, 0, 250, .null, []),
  (29, .aload_n 0, 30, 0, 0, 0, 0, .null, []),
  (30, .iconst 0, 31, 0, 0, 0, 0, .int (nI 0), []),
  (31, .putfield 26, 34, 13, 4, 0, 251, .int 0, []),
  (34, .aload_n 0, 35, 0, 0, 0, 0, .null, []),
  (35, .iconst 0, 36, 0, 0, 0, 0, .int (nI 0), []),
  (36, .putfield 29, 39, 13, 5, 0, 252, .int 0, []),
  (39, .aload_n 0, 40, 0, 0, 0, 0, .null, []),
  (40, .iconst 0, 41, 0, 0, 0, 0, .int (nI 0), []),
  (41, .putfield 32, 44, 13, 6, 0, 254, .int 0, []),
  (44, .aload_n 0, 45, 0, 0, 0, 0, .null, []),
  (45, .iconst 0, 46, 0, 0, 0, 0, .int (nI 0), []),
  (46, .putfield 35, 49, 13, 7, 0, 256, .int 0, []),
  (49, .return_, 50, 0, 0, 0, 0, .null, [])]
def cd69 : List En := [(0, .iload_n 1, 1, 0, 0, 0, 0, .null, []),
  (1, .bipush 32, 3, 0, 0, 0, 0, .int (nI 32), []),
  (3, .bipush 126, 5, 0, 0, 0, 0, .int (nI 126), []),
  (5, .invokestatic 38, 8, 24, 0, 0, 642, .retAddr 3, []),
  (8, .ifCond .ne 6, 11, 14, 0, 0, 0, .null, []),
  (11, .ldc 42, 13, 0, 0, 0, 643, .int ((-1000000001)), []),
  (13, .ireturn, 14, 0, 0, 0, 0, .int 0, []),
  (14, .aload_n 0, 15, 0, 0, 0, 0, .null, []),
  (15, .getfield 15, 18, 13, 1, 0, 247, .int 0, []),
  (18, .ifCond .lt 15, 21, 33, 0, 0, 0, .null, []),
  (21, .aload_n 0, 22, 0, 0, 0, 0, .null, []),
  (22, .getfield 15, 25, 13, 1, 0, 247, .int 0, []),
  (25, .aload_n 0, 26, 0, 0, 0, 0, .null, []),
  (26, .getfield 9, 29, 13, 0, 0, 246, .null, []),
  (29, .arraylength, 30, 0, 0, 0, 0, .null, []),
  (30, .if_icmp .lt 6, 33, 36, 0, 0, 0, .null, []),
  (33, .ldc 43, 35, 0, 0, 0, 644, .int ((-1000000003)), []),
  (35, .ireturn, 36, 0, 0, 0, 0, .int 0, []),
  (36, .aload_n 0, 37, 0, 0, 0, 0, .null, []),
  (37, .getfield 9, 40, 13, 0, 0, 246, .null, []),
  (40, .aload_n 0, 41, 0, 0, 0, 0, .null, []),
  (41, .getfield 15, 44, 13, 1, 0, 247, .int 0, []),
  (44, .iload_n 1, 45, 0, 0, 0, 0, .null, []),
  (45, .i2c, 46, 0, 0, 0, 0, .null, []),
  (46, .castore, 47, 0, 0, 0, 0, .null, []),
  (47, .aload_n 0, 48, 0, 0, 0, 0, .null, []),
  (48, .dup, 49, 0, 0, 0, 0, .null, []),
  (49, .getfield 15, 52, 13, 1, 0, 247, .int 0, []),
  (52, .iconst 1, 53, 0, 0, 0, 0, .int (nI 1), []),
  (53, .iadd, 54, 0, 0, 0, 0, .null, []),
  (54, .putfield 15, 57, 13, 1, 0, 247, .int 0, []),
  (57, .aload_n 0, 58, 0, 0, 0, 0, .null, []),
  (58, .getfield 15, 61, 13, 1, 0, 247, .int 0, []),
  (61, .ireturn, 62, 0, 0, 0, 0, .int 0, [])]
def cd70 : List En := [(0, .aload_n 0, 1, 0, 0, 0, 0, .null, []),
  (1, .getfield 15, 4, 13, 1, 0, 247, .int 0, []),
  (4, .istore_n 1, 5, 0, 0, 0, 0, .null, []),
  (5, .aload_n 0, 6, 0, 0, 0, 0, .null, []),
  (6, .iconst 0, 7, 0, 0, 0, 0, .int (nI 0), []),
  (7, .putfield 15, 10, 13, 1, 0, 247, .int 0, []),
  (10, .iload_n 1, 11, 0, 0, 0, 0, .null, []),
  (11, .ireturn, 12, 0, 0, 0, 0, .int 0, [])]
def cd71 : List En := [(0, .aload_n 0, 1, 0, 0, 0, 0, .null, []),
  (1, .iconst 0, 2, 0, 0, 0, 0, .int (nI 0), []),
  (2, .putfield 29, 5, 13, 5, 0, 252, .int 0, []),
  (5, .iconst 0, 6, 0, 0, 0, 0, .int (nI 0), []),
  (6, .istore_n 3, 7, 0, 0, 0, 0, .null, []),
  (7, .iconst 0, 8, 0, 0, 0, 0, .int (nI 0), []),
  (8, .istore 4, 10, 0, 0, 0, 0, .null, []),
  (10, .iload_n 3, 11, 0, 0, 0, 0, .null, []),
  (11, .aload_n 0, 12, 0, 0, 0, 0, .null, []),
  (12, .getfield 15, 15, 13, 1, 0, 247, .int 0, []),
  (15, .if_icmp .ge 71, 18, 86, 0, 0, 0, .null, []),
  (18, .iload 4, 20, 0, 0, 0, 0, .null, []),
  (20, .bipush 60, 22, 0, 0, 0, 0, .int (nI 60), []),
  (22, .if_icmp .ge 64, 25, 86, 0, 0, 0, .null, []),
  (25, .aload_n 0, 26, 0, 0, 0, 0, .null, []),
  (26, .iload_n 3, 27, 0, 0, 0, 0, .null, []),
  (27, .invokevirtual 44, 30, 74, 2, 13, 661, .retAddr 2, []),
  (30, .ifCond .ne 18, 33, 48, 0, 0, 0, .null, []),
  (33, .aload_n 0, 34, 0, 0, 0, 0, .null, []),
  (34, .iload_n 3, 35, 0, 0, 0, 0, .null, []),
  (35, .iconst 1, 36, 0, 0, 0, 0, .int (nI 1), []),
  (36, .aload_n 0, 37, 0, 0, 0, 0, .null, []),
  (37, .getfield 26, 40, 13, 4, 0, 251, .int 0, []),
  (40, .iload_n 3, 41, 0, 0, 0, 0, .null, []),
  (41, .isub, 42, 0, 0, 0, 0, .null, []),
  (42, .invokevirtual 48, 45, 72, 0, 13, 680, .retAddr 4, []),
  (45, .iload 4, 47, 0, 0, 0, 0, .null, []),
  (47, .ireturn, 48, 0, 0, 0, 0, .int 0, []),
  (48, .aload_n 0, 49, 0, 0, 0, 0, .null, []),
  (49, .aload_n 1, 50, 0, 0, 0, 0, .null, []),
  (50, .aload_n 2, 51, 0, 0, 0, 0, .null, []),
  (51, .invokevirtual 52, 54, 73, 0, 13, 684, .retAddr 3, []),
  (54, .istore 5, 56, 0, 0, 0, 0, .null, []),
  (56, .iload 5, 58, 0, 0, 0, 0, .null, []),
  (58, .invokestatic 56, 61, 25, 0, 0, 693, .retAddr 1, []),
  (61, .ifCond .eq 14, 64, 75, 0, 0, 0, .null, []),
  (64, .aload_n 0, 65, 0, 0, 0, 0, .null, []),
  (65, .iload_n 3, 66, 0, 0, 0, 0, .null, []),
  (66, .iconst 2, 67, 0, 0, 0, 0, .int (nI 2), []),
  (67, .iload 5, 69, 0, 0, 0, 0, .null, []),
  (69, .invokevirtual 48, 72, 72, 0, 13, 680, .retAddr 4, []),
  (72, .iload 4, 74, 0, 0, 0, 0, .null, []),
  (74, .ireturn, 75, 0, 0, 0, 0, .int 0, []),
  (75, .iinc 4 1, 78, 0, 0, 0, 0, .null, []),
  (78, .aload_n 0, 79, 0, 0, 0, 0, .null, []),
  (79, .getfield 26, 82, 13, 4, 0, 251, .int 0, []),
  (82, .istore_n 3, 83, 0, 0, 0, 0, .null, []),
  (83, .goto (-73), 86, 10, 0, 0, 0, .null, []),
  (86, .iload 4, 88, 0, 0, 0, 0, .null, []),
  (88, .ireturn, 89, 0, 0, 0, 0, .int 0, [])]
def cd72 : List En := [(0, .aload_n 0, 1, 0, 0, 0, 0, .null, []),
  (1, .iload_n 1, 2, 0, 0, 0, 0, .null, []),
  (2, .putfield 32, 5, 13, 6, 0, 254, .int 0, []),
  (5, .aload_n 0, 6, 0, 0, 0, 0, .null, []),
  (6, .iload_n 2, 7, 0, 0, 0, 0, .null, []),
  (7, .putfield 29, 10, 13, 5, 0, 252, .int 0, []),
  (10, .aload_n 0, 11, 0, 0, 0, 0, .null, []),
  (11, .iload_n 3, 12, 0, 0, 0, 0, .null, []),
  (12, .putfield 35, 15, 13, 7, 0, 256, .int 0, []),
  (15, .return_, 16, 0, 0, 0, 0, .null, [])]
def cd73 : List En := [(0, .aload_n 0, 1, 0, 0, 0, 0, .null, []),
  (1, .getfield 19, 4, 13, 2, 0, 249, .int 0, []),
  (4, .lookupswitch 127 #[(99, 75), (102, 99), (111, 87), (112, 52), (115, 110)], 56, 131, 0, 0, 0, .null, [(nI 99, 79), (nI 102, 103), (nI 111, 91), (nI 112, 56), (nI 115, 114)]),
  (56, .aload_n 1, 57, 0, 0, 0, 0, .null, []),
  (57, .aload_n 0, 58, 0, 0, 0, 0, .null, []),
  (58, .getfield 22, 61, 13, 3, 0, 250, .null, []),
  (61, .iconst 0, 62, 0, 0, 0, 0, .int (nI 0), []),
  (62, .iaload, 63, 0, 0, 0, 0, .null, []),
  (63, .aload_n 0, 64, 0, 0, 0, 0, .null, []),
  (64, .getfield 22, 67, 13, 3, 0, 250, .null, []),
  (67, .iconst 1, 68, 0, 0, 0, 0, .int (nI 1), []),
  (68, .iaload, 69, 0, 0, 0, 0, .null, []),
  (69, .aload_n 0, 70, 0, 0, 0, 0, .null, []),
  (70, .getfield 22, 73, 13, 3, 0, 250, .null, []),
  (73, .iconst 2, 74, 0, 0, 0, 0, .int (nI 2), []),
  (74, .iaload, 75, 0, 0, 0, 0, .null, []),
  (75, .invokevirtual 59, 78, 53, 1, 11, 688, .retAddr 4, []),
  (78, .ireturn, 79, 0, 0, 0, 0, .int 0, []),
  (79, .aload_n 1, 80, 0, 0, 0, 0, .null, []),
  (80, .aload_n 0, 81, 0, 0, 0, 0, .null, []),
  (81, .getfield 22, 84, 13, 3, 0, 250, .null, []),
  (84, .iconst 0, 85, 0, 0, 0, 0, .int (nI 0), []),
  (85, .iaload, 86, 0, 0, 0, 0, .null, []),
  (86, .iconst 1, 87, 0, 0, 0, 0, .int (nI 1), []),
  (87, .invokevirtual 65, 90, 54, 0, 11, 689, .retAddr 3, []),
  (90, .ireturn, 91, 0, 0, 0, 0, .int 0, []),
  (91, .aload_n 1, 92, 0, 0, 0, 0, .null, []),
  (92, .aload_n 0, 93, 0, 0, 0, 0, .null, []),
  (93, .getfield 22, 96, 13, 3, 0, 250, .null, []),
  (96, .iconst 0, 97, 0, 0, 0, 0, .int (nI 0), []),
  (97, .iaload, 98, 0, 0, 0, 0, .null, []),
  (98, .iconst 0, 99, 0, 0, 0, 0, .int (nI 0), []),
  (99, .invokevirtual 65, 102, 54, 0, 11, 689, .retAddr 3, []),
  (102, .ireturn, 103, 0, 0, 0, 0, .int 0, []),
  (103, .aload_n 1, 104, 0, 0, 0, 0, .null, []),
  (104, .aload_n 0, 105, 0, 0, 0, 0, .null, []),
  (105, .getfield 22, 108, 13, 3, 0, 250, .null, []),
  (108, .iconst 0, 109, 0, 0, 0, 0, .int (nI 0), []),
  (109, .iaload, 110, 0, 0, 0, 0, .null, []),
  (110, .invokevirtual 69, 113, 55, 1, 11, 690, .retAddr 2, []),
  (113, .ireturn, 114, 0, 0, 0, 0, .int 0, []),
  (114, .aload_n 1, 115, 0, 0, 0, 0, .null, []),
  (115, .aload_n 0, 116, 0, 0, 0, 0, .null, []),
  (116, .getfield 22, 119, 13, 3, 0, 250, .null, []),
  (119, .iconst 0, 120, 0, 0, 0, 0, .int (nI 0), []),
  (120, .iaload, 121, 0, 0, 0, 0, .null, []),
  (121, .aload_n 0, 122, 0, 0, 0, 0, .null, []),
  (122, .getfield 22, 125, 13, 3, 0, 250, .null, []),
  (125, .iconst 1, 126, 0, 0, 0, 0, .int (nI 1), []),
  (126, .iaload, 127, 0, 0, 0, 0, .null, []),
  (127, .invokevirtual 73, 130, 57, 1, 11, 691, .retAddr 3, []),
  (130, .ireturn, 131, 0, 0, 0, 0, .int 0, []),
  (131, .aload_n 2, 132, 0, 0, 0, 0, .null, []),
  (132, .aload_n 1, 133, 0, 0, 0, 0, .null, []),
  (133, .aload_n 0, 134, 0, 0, 0, 0, .null, []),
  (134, .getfield 22, 137, 13, 3, 0, 250, .null, []),
  (137, .iconst 0, 138, 0, 0, 0, 0, .int (nI 0), []),
  (138, .iaload, 139, 0, 0, 0, 0, .null, []),
  (139, .invokevirtual 77, 142, 30, 5, 10, 692, .retAddr 3, []),
  (142, .ireturn, 143, 0, 0, 0, 0, .int 0, [])]
def cd74 : List En := [(0, .aload_n 0, 1, 0, 0, 0, 0, .null, []),
  (1, .iload_n 1, 2, 0, 0, 0, 0, .null, []),
  (2, .putfield 26, 5, 13, 4, 0, 251, .int 0, []),
  (5, .aload_n 0, 6, 0, 0, 0, 0, .null, []),
  (6, .aload_n 0, 7, 0, 0, 0, 0, .null, []),
  (7, .invokevirtual 83, 10, 76, 0, 13, 665, .retAddr 1, []),
  (10, .putfield 19, 13, 13, 2, 0, 249, .int 0, []),
  (13, .aload_n 0, 14, 0, 0, 0, 0, .null, []),
  (14, .getfield 19, 17, 13, 2, 0, 249, .int 0, []),
  (17, .invokestatic 87, 20, 75, 0, 0, 669, .retAddr 1, []),
  (20, .istore_n 2, 21, 0, 0, 0, 0, .null, []),
  (21, .iload_n 2, 22, 0, 0, 0, 0, .null, []),
  (22, .ifCond .ne 5, 25, 27, 0, 0, 0, .null, []),
  (25, .iconst 0, 26, 0, 0, 0, 0, .int (nI 0), []),
  (26, .ireturn, 27, 0, 0, 0, 0, .int 1, []),
  (27, .aload_n 0, 28, 0, 0, 0, 0, .null, []),
  (28, .dup, 29, 0, 0, 0, 0, .null, []),
  (29, .getfield 26, 32, 13, 4, 0, 251, .int 0, []),
  (32, .iconst 1, 33, 0, 0, 0, 0, .int (nI 1), []),
  (33, .iadd, 34, 0, 0, 0, 0, .null, []),
  (34, .putfield 26, 37, 13, 4, 0, 251, .int 0, []),
  (37, .iconst 0, 38, 0, 0, 0, 0, .int (nI 0), []),
  (38, .istore_n 3, 39, 0, 0, 0, 0, .null, []),
  (39, .iload_n 3, 40, 0, 0, 0, 0, .null, []),
  (40, .iload_n 2, 41, 0, 0, 0, 0, .null, []),
  (41, .if_icmp .ge 34, 44, 75, 0, 0, 0, .null, []),
  (44, .iload_n 3, 45, 0, 0, 0, 0, .null, []),
  (45, .ifCond .le 14, 48, 59, 0, 0, 0, .null, []),
  (48, .aload_n 0, 49, 0, 0, 0, 0, .null, []),
  (49, .bipush 44, 51, 0, 0, 0, 0, .int (nI 44), []),
  (51, .invokevirtual 90, 54, 77, 0, 13, 672, .retAddr 2, []),
  (54, .ifCond .ne 5, 57, 59, 0, 0, 0, .null, []),
  (57, .iconst 0, 58, 0, 0, 0, 0, .int (nI 0), []),
  (58, .ireturn, 59, 0, 0, 0, 0, .int 1, []),
  (59, .aload_n 0, 60, 0, 0, 0, 0, .null, []),
  (60, .iload_n 3, 61, 0, 0, 0, 0, .null, []),
  (61, .invokevirtual 94, 64, 78, 2, 13, 676, .retAddr 2, []),
  (64, .ifCond .ne 5, 67, 69, 0, 0, 0, .null, []),
  (67, .iconst 0, 68, 0, 0, 0, 0, .int (nI 0), []),
  (68, .ireturn, 69, 0, 0, 0, 0, .int 1, []),
  (69, .iinc 3 1, 72, 0, 0, 0, 0, .null, []),
  (72, .goto (-33), 75, 39, 0, 0, 0, .null, []),
  (75, .aload_n 0, 76, 0, 0, 0, 0, .null, []),
  (76, .bipush 59, 78, 0, 0, 0, 0, .int (nI 59), []),
  (78, .invokevirtual 90, 81, 77, 0, 13, 672, .retAddr 2, []),
  (81, .ireturn, 82, 0, 0, 0, 0, .int 1, [])]
def cd75 : List En := [(0, .iload_n 0, 1, 0, 0, 0, 0, .null, []),
  (1, .tableswitch 89 99 115 #[87, 89, 89, 87, 89, 89, 89, 89, 89, 87, 89, 89, 87, 83, 89, 89, 85], 84, 90, 0, 0, 0, .null, [(nI 99, 88), (nI 100, 90), (nI 101, 90), (nI 102, 88), (nI 103, 90), (nI 104, 90), (nI 105, 90), (nI 106, 90), (nI 107, 90), (nI 108, 88), (nI 109, 90), (nI 110, 90), (nI 111, 88), (nI 112, 84), (nI 113, 90), (nI 114, 90), (nI 115, 86)]),
  (84, .iconst 3, 85, 0, 0, 0, 0, .int (nI 3), []),
  (85, .ireturn, 86, 0, 0, 0, 0, .int 0, []),
  (86, .iconst 2, 87, 0, 0, 0, 0, .int (nI 2), []),
  (87, .ireturn, 88, 0, 0, 0, 0, .int 0, []),
  (88, .iconst 1, 89, 0, 0, 0, 0, .int (nI 1), []),
  (89, .ireturn, 90, 0, 0, 0, 0, .int 0, []),
  (90, .iconst 0, 91, 0, 0, 0, 0, .int (nI 0), []),
  (91, .ireturn, 92, 0, 0, 0, 0, .int 0, [])]
def cd76 : List En := [(0, .aload_n 0, 1, 0, 0, 0, 0, .null, []),
  (1, .getfield 26, 4, 13, 4, 0, 251, .int 0, []),
  (4, .ifCond .lt 38, 7, 42, 0, 0, 0, .null, []),
  (7, .aload_n 0, 8, 0, 0, 0, 0, .null, []),
  (8, .getfield 26, 11, 13, 4, 0, 251, .int 0, []),
  (11, .aload_n 0, 12, 0, 0, 0, 0, .null, []),
  (12, .getfield 15, 15, 13, 1, 0, 247, .int 0, []),
  (15, .if_icmp .ge 27, 18, 42, 0, 0, 0, .null, []),
  (18, .aload_n 0, 19, 0, 0, 0, 0, .null, []),
  (19, .getfield 26, 22, 13, 4, 0, 251, .int 0, []),
  (22, .aload_n 0, 23, 0, 0, 0, 0, .null, []),
  (23, .getfield 9, 26, 13, 0, 0, 246, .null, []),
  (26, .arraylength, 27, 0, 0, 0, 0, .null, []),
  (27, .if_icmp .ge 15, 30, 42, 0, 0, 0, .null, []),
  (30, .aload_n 0, 31, 0, 0, 0, 0, .null, []),
  (31, .getfield 9, 34, 13, 0, 0, 246, .null, []),
  (34, .aload_n 0, 35, 0, 0, 0, 0, .null, []),
  (35, .getfield 26, 38, 13, 4, 0, 251, .int 0, []),
  (38, .caload, 39, 0, 0, 0, 0, .null, []),
  (39, .goto 4, 42, 43, 0, 0, 0, .null, []),
  (42, .iconst 0, 43, 0, 0, 0, 0, .int (nI 0), []),
  (43, .ireturn, 44, 0, 0, 0, 0, .int 2, [])]
def cd77 : List En := [(0, .aload_n 0, 1, 0, 0, 0, 0, .null, []),
  (1, .invokevirtual 83, 4, 76, 0, 13, 665, .retAddr 1, []),
  (4, .iload_n 1, 5, 0, 0, 0, 0, .null, []),
  (5, .if_icmp .eq 5, 8, 10, 0, 0, 0, .null, []),
  (8, .iconst 0, 9, 0, 0, 0, 0, .int (nI 0), []),
  (9, .ireturn, 10, 0, 0, 0, 0, .int 1, []),
  (10, .aload_n 0, 11, 0, 0, 0, 0, .null, []),
  (11, .dup, 12, 0, 0, 0, 0, .null, []),
  (12, .getfield 26, 15, 13, 4, 0, 251, .int 0, []),
  (15, .iconst 1, 16, 0, 0, 0, 0, .int (nI 1), []),
  (16, .iadd, 17, 0, 0, 0, 0, .null, []),
  (17, .putfield 26, 20, 13, 4, 0, 251, .int 0, []),
  (20, .iconst 1, 21, 0, 0, 0, 0, .int (nI 1), []),
  (21, .ireturn, 22, 0, 0, 0, 0, .int 1, [])]
def cd78 : List En := [(0, .iconst 0, 1, 0, 0, 0, 0, .int (nI 0), []),
  (1, .istore_n 2, 2, 0, 0, 0, 0, .null, []),
  (2, .iconst 0, 3, 0, 0, 0, 0, .int (nI 0), []),
  (3, .istore_n 3, 4, 0, 0, 0, 0, .null, []),
  (4, .iload_n 3, 5, 0, 0, 0, 0, .null, []),
  (5, .iconst 4, 6, 0, 0, 0, 0, .int (nI 4), []),
  (6, .if_icmp .ge 50, 9, 56, 0, 0, 0, .null, []),
  (9, .aload_n 0, 10, 0, 0, 0, 0, .null, []),
  (10, .invokevirtual 83, 13, 76, 0, 13, 665, .retAddr 1, []),
  (13, .bipush 48, 15, 0, 0, 0, 0, .int (nI 48), []),
  (15, .if_icmp .lt 41, 18, 56, 0, 0, 0, .null, []),
  (18, .aload_n 0, 19, 0, 0, 0, 0, .null, []),
  (19, .invokevirtual 83, 22, 76, 0, 13, 665, .retAddr 1, []),
  (22, .bipush 57, 24, 0, 0, 0, 0, .int (nI 57), []),
  (24, .if_icmp .gt 32, 27, 56, 0, 0, 0, .null, []),
  (27, .iload_n 2, 28, 0, 0, 0, 0, .null, []),
  (28, .bipush 10, 30, 0, 0, 0, 0, .int (nI 10), []),
  (30, .imul, 31, 0, 0, 0, 0, .null, []),
  (31, .aload_n 0, 32, 0, 0, 0, 0, .null, []),
  (32, .invokevirtual 83, 35, 76, 0, 13, 665, .retAddr 1, []),
  (35, .bipush 48, 37, 0, 0, 0, 0, .int (nI 48), []),
  (37, .isub, 38, 0, 0, 0, 0, .null, []),
  (38, .iadd, 39, 0, 0, 0, 0, .null, []),
  (39, .istore_n 2, 40, 0, 0, 0, 0, .null, []),
  (40, .iinc 3 1, 43, 0, 0, 0, 0, .null, []),
  (43, .aload_n 0, 44, 0, 0, 0, 0, .null, []),
  (44, .dup, 45, 0, 0, 0, 0, .null, []),
  (45, .getfield 26, 48, 13, 4, 0, 251, .int 0, []),
  (48, .iconst 1, 49, 0, 0, 0, 0, .int (nI 1), []),
  (49, .iadd, 50, 0, 0, 0, 0, .null, []),
  (50, .putfield 26, 53, 13, 4, 0, 251, .int 0, []),
  (53, .goto (-49), 56, 4, 0, 0, 0, .null, []),
  (56, .iload_n 1, 57, 0, 0, 0, 0, .null, []),
  (57, .ifCond .lt 19, 60, 76, 0, 0, 0, .null, []),
  (60, .iload_n 1, 61, 0, 0, 0, 0, .null, []),
  (61, .aload_n 0, 62, 0, 0, 0, 0, .null, []),
  (62, .getfield 22, 65, 13, 3, 0, 250, .null, []),
  (65, .arraylength, 66, 0, 0, 0, 0, .null, []),
  (66, .if_icmp .ge 10, 69, 76, 0, 0, 0, .null, []),
  (69, .aload_n 0, 70, 0, 0, 0, 0, .null, []),
  (70, .getfield 22, 73, 13, 3, 0, 250, .null, []),
  (73, .iload_n 1, 74, 0, 0, 0, 0, .null, []),
  (74, .iload_n 2, 75, 0, 0, 0, 0, .null, []),
  (75, .iastore, 76, 0, 0, 0, 0, .null, []),
  (76, .iload_n 3, 77, 0, 0, 0, 0, .null, []),
  (77, .ifCond .le 7, 80, 84, 0, 0, 0, .null, []),
  (80, .iconst 1, 81, 0, 0, 0, 0, .int (nI 1), []),
  (81, .goto 4, 84, 85, 0, 0, 0, .null, []),
  (84, .iconst 0, 85, 0, 0, 0, 0, .int (nI 0), []),
  (85, .ireturn, 86, 0, 0, 0, 0, .int 1, [])]
def cd79 : List En := [(0, .aload_n 0, 1, 0, 0, 0, 0, .null, []),
  (1, .invokespecial 3, 4, 900, 0, 0, 229, .null, []),
  (4, .aload_n 0, 5, 0, 0, 0, 0, .null, []),
  (5, .bipush 10, 7, 0, 0, 0, 0, .int (nI 10), []),
  (7, .newarray .int, 9, 0, 0, 0, 0, .null, []),
  (9, .putfield 9, 12, 14, 0, 0, 232, .null, []),
  (12, .aload_n 0, 13, 0, 0, 0, 0, .null, []),
  (13, .new 15, 16, 15, 5, 0, 230, .null, []),
  (16, .dup, 17, 0, 0, 0, 0, .null, []),
  (17, .invokespecial 17, 20, 85, 0, 15, 231, .retAddr 1, []),
  (20, .putfield 18, 23, 14, 1, 0, 233, .null, []),
  (23, .return_, 24, 0, 0, 0, 0, .null, [])]
def cd80_0 : List En := [(0, .aload_n 1, 1, 0, 0, 0, 0, .null, []),
  (1, .iload_n 2, 2, 0, 0, 0, 0, .null, []),
  (2, .invokevirtual 22, 5, 38, 0, 11, 537, .retAddr 2, []),
  (5, .ifCond .ne 6, 8, 11, 0, 0, 0, .null, []),
  (8, .ldc 28, 10, 0, 0, 0, 538, .int ((-1000000004)), []),
  (10, .ireturn, 11, 0, 0, 0, 0, .int 0, []),
  (11, .iconst 0, 12, 0, 0, 0, 0, .int (nI 0), []),
  (12, .istore_n 3, 13, 0, 0, 0, 0, .null, []),
  (13, .iload_n 3, 14, 0, 0, 0, 0, .null, []),
  (14, .aload_n 0, 15, 0, 0, 0, 0, .null, []),
  (15, .getfield 9, 18, 14, 0, 0, 232, .null, []),
  (18, .arraylength, 19, 0, 0, 0, 0, .null, []),
  (19, .if_icmp .ge 25, 22, 44, 0, 0, 0, .null, []),
  (22, .aload_n 0, 23, 0, 0, 0, 0, .null, []),
  (23, .getfield 9, 26, 14, 0, 0, 232, .null, []),
  (26, .iload_n 3, 27, 0, 0, 0, 0, .null, []),
  (27, .iload_n 3, 28, 0, 0, 0, 0, .null, []),
  (28, .ifCond .ne 7, 31, 35, 0, 0, 0, .null, []),
  (31, .iconst 0, 32, 0, 0, 0, 0, .int (nI 0), []),
  (32, .goto 5, 35, 37, 0, 0, 0, .null, []),
  (35, .ldc 29, 37, 0, 0, 0, 539, .int (nI 1000000), []),
  (37, .iastore, 38, 0, 0, 0, 0, .null, []),
  (38, .iinc 3 1, 41, 0, 0, 0, 0, .null, []),
  (41, .goto (-28), 44, 13, 0, 0, 0, .null, []),
  (44, .iconst 1, 45, 0, 0, 0, 0, .int (nI 1), []),
  (45, .istore_n 3, 46, 0, 0, 0, 0, .null, []),
  (46, .iload_n 3, 47, 0, 0, 0, 0, .null, []),
  (47, .aload_n 1, 48, 0, 0, 0, 0, .null, []),
  (48, .getfield 30, 51, 11, 0, 1, 111, .int 0, []),
  (51, .if_icmp .ge 34, 54, 85, 0, 0, 0, .null, []),
  (54, .iconst 0, 55, 0, 0, 0, 0, .int (nI 0), []),
  (55, .istore 4, 57, 0, 0, 0, 0, .null, []),
  (57, .iload 4, 59, 0, 0, 0, 0, .null, []),
  (59, .aload_n 1, 60, 0, 0, 0, 0, .null, []),
  (60, .getfield 34, 63, 11, 3, 1, 118, .int 0, []),
  (63, .if_icmp .ge 16, 66, 79, 0, 0, 0, .null, []),
  (66, .aload_n 0, 67, 0, 0, 0, 0, .null, []),
  (67, .aload_n 1, 68, 0, 0, 0, 0, .null, []),
  (68, .iload 4, 70, 0, 0, 0, 0, .null, []),
  (70, .invokevirtual 37, 73, 81, 2, 14, 540, .retAddr 3, []),
  (73, .iinc 4 1, 76, 0, 0, 0, 0, .null, []),
  (76, .goto (-19), 79, 57, 0, 0, 0, .null, []),
  (79, .iinc 3 1, 82, 0, 0, 0, 0, .null, []),
  (82, .goto (-36), 85, 46, 0, 0, 0, .null, []),
  (85, .iload_n 2, 86, 0, 0, 0, 0, .null, []),
  (86, .aload_n 0, 87, 0, 0, 0, 0, .null, []),
  (87, .getfield 9, 90, 14, 0, 0, 232, .null, []),
  (90, .arraylength, 91, 0, 0, 0, 0, .null, []),
  (91, .if_icmp .ge 23, 94, 114, 0, 0, 0, .null, []),
  (94, .aload_n 0, 95, 0, 0, 0, 0, .null, [])]
def cd80_1 : List En := [(95, .getfield 9, 98, 14, 0, 0, 232, .null, []),
  (98, .iload_n 2, 99, 0, 0, 0, 0, .null, []),
  (99, .iaload, 100, 0, 0, 0, 0, .null, []),
  (100, .ldc 29, 102, 0, 0, 0, 539, .int (nI 1000000), []),
  (102, .if_icmp .ge 12, 105, 114, 0, 0, 0, .null, []),
  (105, .aload_n 0, 106, 0, 0, 0, 0, .null, []),
  (106, .getfield 9, 109, 14, 0, 0, 232, .null, []),
  (109, .iload_n 2, 110, 0, 0, 0, 0, .null, []),
  (110, .iaload, 111, 0, 0, 0, 0, .null, []),
  (111, .goto 5, 114, 116, 0, 0, 0, .null, []),
  (114, .ldc 28, 116, 0, 0, 0, 538, .int ((-1000000004)), []),
  (116, .ireturn, 117, 0, 0, 0, 0, .int 0, [])]
def cd80 : List En := cd80_0 ++ (cd80_1)
def cd81_0 : List En := [(0, .aload_n 1, 1, 0, 0, 0, 0, .null, []),
  (1, .iload_n 2, 2, 0, 0, 0, 0, .null, []),
  (2, .invokevirtual 41, 5, 39, 0, 11, 544, .retAddr 2, []),
  (5, .ifCond .eq 11, 8, 16, 0, 0, 0, .null, []),
  (8, .aload_n 1, 9, 0, 0, 0, 0, .null, []),
  (9, .iload_n 2, 10, 0, 0, 0, 0, .null, []),
  (10, .invokevirtual 44, 13, 42, 0, 11, 545, .retAddr 2, []),
  (13, .ifCond .eq 4, 16, 17, 0, 0, 0, .null, []),
  (16, .return_, 17, 0, 0, 0, 0, .null, []),
  (17, .aload_n 1, 18, 0, 0, 0, 0, .null, []),
  (18, .getfield 47, 21, 11, 4, 1, 122, .null, []),
  (21, .iload_n 2, 22, 0, 0, 0, 0, .null, []),
  (22, .iaload, 23, 0, 0, 0, 0, .null, []),
  (23, .istore_n 3, 24, 0, 0, 0, 0, .null, []),
  (24, .aload_n 1, 25, 0, 0, 0, 0, .null, []),
  (25, .getfield 50, 28, 11, 5, 1, 125, .null, []),
  (28, .iload_n 2, 29, 0, 0, 0, 0, .null, []),
  (29, .iaload, 30, 0, 0, 0, 0, .null, []),
  (30, .istore 4, 32, 0, 0, 0, 0, .null, []),
  (32, .iload_n 3, 33, 0, 0, 0, 0, .null, []),
  (33, .iconst 0, 34, 0, 0, 0, 0, .int (nI 0), []),
  (34, .aload_n 0, 35, 0, 0, 0, 0, .null, []),
  (35, .getfield 9, 38, 14, 0, 0, 232, .null, []),
  (38, .arraylength, 39, 0, 0, 0, 0, .null, []),
  (39, .iconst 1, 40, 0, 0, 0, 0, .int (nI 1), []),
  (40, .isub, 41, 0, 0, 0, 0, .null, []),
  (41, .invokestatic 53, 44, 24, 0, 0, 546, .retAddr 3, []),
  (44, .ifCond .eq 78, 47, 122, 0, 0, 0, .null, []),
  (47, .iload 4, 49, 0, 0, 0, 0, .null, []),
  (49, .iconst 0, 50, 0, 0, 0, 0, .int (nI 0), []),
  (50, .aload_n 0, 51, 0, 0, 0, 0, .null, []),
  (51, .getfield 9, 54, 14, 0, 0, 232, .null, []),
  (54, .arraylength, 55, 0, 0, 0, 0, .null, []),
  (55, .iconst 1, 56, 0, 0, 0, 0, .int (nI 1), []),
  (56, .isub, 57, 0, 0, 0, 0, .null, []),
  (57, .invokestatic 53, 60, 24, 0, 0, 546, .retAddr 3, []),
  (60, .ifCond .eq 62, 63, 122, 0, 0, 0, .null, []),
  (63, .aload_n 0, 64, 0, 0, 0, 0, .null, []),
  (64, .getfield 9, 67, 14, 0, 0, 232, .null, []),
  (67, .iload_n 3, 68, 0, 0, 0, 0, .null, []),
  (68, .aload_n 0, 69, 0, 0, 0, 0, .null, []),
  (69, .getfield 9, 72, 14, 0, 0, 232, .null, []),
  (72, .iload_n 3, 73, 0, 0, 0, 0, .null, []),
  (73, .iaload, 74, 0, 0, 0, 0, .null, []),
  (74, .aload_n 0, 75, 0, 0, 0, 0, .null, []),
  (75, .getfield 9, 78, 14, 0, 0, 232, .null, []),
  (78, .iload 4, 80, 0, 0, 0, 0, .null, []),
  (80, .iaload, 81, 0, 0, 0, 0, .null, []),
  (81, .aload_n 1, 82, 0, 0, 0, 0, .null, []),
  (82, .getfield 57, 85, 11, 6, 1, 128, .null, [])]
def cd81_1 : List En := [(85, .iload_n 2, 86, 0, 0, 0, 0, .null, []),
  (86, .iaload, 87, 0, 0, 0, 0, .null, []),
  (87, .iadd, 88, 0, 0, 0, 0, .null, []),
  (88, .invokestatic 60, 91, 902, 0, 2, 547, .null, []),
  (91, .iastore, 92, 0, 0, 0, 0, .null, []),
  (92, .aload_n 0, 93, 0, 0, 0, 0, .null, []),
  (93, .getfield 9, 96, 14, 0, 0, 232, .null, []),
  (96, .iload 4, 98, 0, 0, 0, 0, .null, []),
  (98, .aload_n 0, 99, 0, 0, 0, 0, .null, []),
  (99, .getfield 9, 102, 14, 0, 0, 232, .null, []),
  (102, .iload 4, 104, 0, 0, 0, 0, .null, []),
  (104, .iaload, 105, 0, 0, 0, 0, .null, []),
  (105, .aload_n 0, 106, 0, 0, 0, 0, .null, []),
  (106, .getfield 9, 109, 14, 0, 0, 232, .null, []),
  (109, .iload_n 3, 110, 0, 0, 0, 0, .null, []),
  (110, .iaload, 111, 0, 0, 0, 0, .null, []),
  (111, .aload_n 1, 112, 0, 0, 0, 0, .null, []),
  (112, .getfield 57, 115, 11, 6, 1, 128, .null, []),
  (115, .iload_n 2, 116, 0, 0, 0, 0, .null, []),
  (116, .iaload, 117, 0, 0, 0, 0, .null, []),
  (117, .iadd, 118, 0, 0, 0, 0, .null, []),
  (118, .invokestatic 60, 121, 902, 0, 2, 547, .null, []),
  (121, .iastore, 122, 0, 0, 0, 0, .null, []),
  (122, .return_, 123, 0, 0, 0, 0, .null, [])]
def cd81 : List En := cd81_0 ++ (cd81_1)
def cd82 : List En := [(0, .aload_n 0, 1, 0, 0, 0, 0, .null, []),
  (1, .getfield 18, 4, 14, 1, 0, 233, .null, []),
  (4, .invokevirtual 66, 7, 86, 0, 15, 585, .retAddr 1, []),
  (7, .iconst 0, 8, 0, 0, 0, 0, .int (nI 0), []),
  (8, .istore_n 2, 9, 0, 0, 0, 0, .null, []),
  (9, .iload_n 2, 10, 0, 0, 0, 0, .null, []),
  (10, .bipush 10, 12, 0, 0, 0, 0, .int (nI 10), []),
  (12, .if_icmp .ge 60, 15, 72, 0, 0, 0, .null, []),
  (15, .aload_n 0, 16, 0, 0, 0, 0, .null, []),
  (16, .getfield 18, 19, 14, 1, 0, 233, .null, []),
  (19, .invokevirtual 69, 22, 89, 0, 15, 586, .retAddr 1, []),
  (22, .aload_n 1, 23, 0, 0, 0, 0, .null, []),
  (23, .getfield 73, 26, 11, 10, 1, 137, .int 0, []),
  (26, .if_icmp .eq 46, 29, 72, 0, 0, 0, .null, []),
  (29, .aload_n 0, 30, 0, 0, 0, 0, .null, []),
  (30, .aload_n 1, 31, 0, 0, 0, 0, .null, []),
  (31, .invokevirtual 76, 34, 83, 4, 14, 587, .retAddr 2, []),
  (34, .istore_n 3, 35, 0, 0, 0, 0, .null, []),
  (35, .iload_n 3, 36, 0, 0, 0, 0, .null, []),
  (36, .iconst (-1), 37, 0, 0, 0, 0, .int ((-1)), []),
  (37, .if_icmp .ne 4, 40, 41, 0, 0, 0, .null, []),
  (40, .return_, 41, 0, 0, 0, 0, .null, []),
  (41, .aload_n 0, 42, 0, 0, 0, 0, .null, []),
  (42, .getfield 18, 45, 14, 1, 0, 233, .null, []),
  (45, .iload_n 3, 46, 0, 0, 0, 0, .null, []),
  (46, .aload_n 1, 47, 0, 0, 0, 0, .null, []),
  (47, .iload_n 3, 48, 0, 0, 0, 0, .null, []),
  (48, .aload_n 0, 49, 0, 0, 0, 0, .null, []),
  (49, .getfield 18, 52, 14, 1, 0, 233, .null, []),
  (52, .invokevirtual 69, 55, 89, 0, 15, 586, .retAddr 1, []),
  (55, .invokevirtual 80, 58, 46, 0, 11, 591, .retAddr 3, []),
  (58, .aload_n 1, 59, 0, 0, 0, 0, .null, []),
  (59, .iload_n 3, 60, 0, 0, 0, 0, .null, []),
  (60, .invokevirtual 83, 63, 44, 0, 11, 596, .retAddr 2, []),
  (63, .invokevirtual 87, 66, 87, 0, 15, 597, .retAddr 4, []),
  (66, .iinc 2 1, 69, 0, 0, 0, 0, .null, []),
  (69, .goto (-60), 72, 9, 0, 0, 0, .null, []),
  (72, .return_, 73, 0, 0, 0, 0, .null, [])]
def cd83 : List En := [(0, .aload_n 0, 1, 0, 0, 0, 0, .null, []),
  (1, .getfield 18, 4, 14, 1, 0, 233, .null, []),
  (4, .invokevirtual 69, 7, 89, 0, 15, 586, .retAddr 1, []),
  (7, .istore_n 2, 8, 0, 0, 0, 0, .null, []),
  (8, .iconst (-1), 9, 0, 0, 0, 0, .int ((-1)), []),
  (9, .istore_n 3, 10, 0, 0, 0, 0, .null, []),
  (10, .iconst 0, 11, 0, 0, 0, 0, .int (nI 0), []),
  (11, .istore 4, 13, 0, 0, 0, 0, .null, []),
  (13, .iload 4, 15, 0, 0, 0, 0, .null, []),
  (15, .aload_n 1, 16, 0, 0, 0, 0, .null, []),
  (16, .getfield 34, 19, 11, 3, 1, 118, .int 0, []),
  (19, .if_icmp .ge 48, 22, 67, 0, 0, 0, .null, []),
  (22, .aload_n 0, 23, 0, 0, 0, 0, .null, []),
  (23, .getfield 18, 26, 14, 1, 0, 233, .null, []),
  (26, .aload_n 1, 27, 0, 0, 0, 0, .null, []),
  (27, .iload 4, 29, 0, 0, 0, 0, .null, []),
  (29, .iload_n 2, 30, 0, 0, 0, 0, .null, []),
  (30, .invokevirtual 80, 33, 46, 0, 11, 591, .retAddr 3, []),
  (33, .invokevirtual 91, 36, 92, 0, 15, 592, .retAddr 2, []),
  (36, .istore 5, 38, 0, 0, 0, 0, .null, []),
  (38, .iload 5, 40, 0, 0, 0, 0, .null, []),
  (40, .ifCond .eq 21, 43, 61, 0, 0, 0, .null, []),
  (43, .iload_n 3, 44, 0, 0, 0, 0, .null, []),
  (44, .iconst (-1), 45, 0, 0, 0, 0, .int ((-1)), []),
  (45, .if_icmp .eq 13, 48, 58, 0, 0, 0, .null, []),
  (48, .aload_n 1, 49, 0, 0, 0, 0, .null, []),
  (49, .iload 4, 51, 0, 0, 0, 0, .null, []),
  (51, .iload_n 3, 52, 0, 0, 0, 0, .null, []),
  (52, .invokestatic 94, 55, 84, 0, 0, 593, .retAddr 3, []),
  (55, .ifCond .eq 6, 58, 61, 0, 0, 0, .null, []),
  (58, .iload 4, 60, 0, 0, 0, 0, .null, []),
  (60, .istore_n 3, 61, 0, 0, 0, 0, .null, []),
  (61, .iinc 4 1, 64, 0, 0, 0, 0, .null, []),
  (64, .goto (-51), 67, 13, 0, 0, 0, .null, []),
  (67, .iload_n 3, 68, 0, 0, 0, 0, .null, []),
  (68, .ireturn, 69, 0, 0, 0, 0, .int 0, [])]
def cd84 : List En := [(0, .aload_n 0, 1, 0, 0, 0, 0, .null, []),
  (1, .iload_n 1, 2, 0, 0, 0, 0, .null, []),
  (2, .invokevirtual 41, 5, 39, 0, 11, 544, .retAddr 2, []),
  (5, .ifCond .eq 11, 8, 16, 0, 0, 0, .null, []),
  (8, .aload_n 0, 9, 0, 0, 0, 0, .null, []),
  (9, .iload_n 2, 10, 0, 0, 0, 0, .null, []),
  (10, .invokevirtual 41, 13, 39, 0, 11, 544, .retAddr 2, []),
  (13, .ifCond .ne 5, 16, 18, 0, 0, 0, .null, []),
  (16, .iconst 0, 17, 0, 0, 0, 0, .int (nI 0), []),
  (17, .ireturn, 18, 0, 0, 0, 0, .int 1, []),
  (18, .aload_n 0, 19, 0, 0, 0, 0, .null, []),
  (19, .getfield 98, 22, 11, 7, 1, 131, .null, []),
  (22, .iload_n 1, 23, 0, 0, 0, 0, .null, []),
  (23, .iaload, 24, 0, 0, 0, 0, .null, []),
  (24, .aload_n 0, 25, 0, 0, 0, 0, .null, []),
  (25, .getfield 98, 28, 11, 7, 1, 131, .null, []),
  (28, .iload_n 2, 29, 0, 0, 0, 0, .null, []),
  (29, .iaload, 30, 0, 0, 0, 0, .null, []),
  (30, .if_icmp .eq 24, 33, 54, 0, 0, 0, .null, []),
  (33, .aload_n 0, 34, 0, 0, 0, 0, .null, []),
  (34, .getfield 98, 37, 11, 7, 1, 131, .null, []),
  (37, .iload_n 1, 38, 0, 0, 0, 0, .null, []),
  (38, .iaload, 39, 0, 0, 0, 0, .null, []),
  (39, .aload_n 0, 40, 0, 0, 0, 0, .null, []),
  (40, .getfield 98, 43, 11, 7, 1, 131, .null, []),
  (43, .iload_n 2, 44, 0, 0, 0, 0, .null, []),
  (44, .iaload, 45, 0, 0, 0, 0, .null, []),
  (45, .if_icmp .le 7, 48, 52, 0, 0, 0, .null, []),
  (48, .iconst 1, 49, 0, 0, 0, 0, .int (nI 1), []),
  (49, .goto 4, 52, 53, 0, 0, 0, .null, []),
  (52, .iconst 0, 53, 0, 0, 0, 0, .int (nI 0), []),
  (53, .ireturn, 54, 0, 0, 0, 0, .int 1, []),
  (54, .aload_n 0, 55, 0, 0, 0, 0, .null, []),
  (55, .getfield 57, 58, 11, 6, 1, 128, .null, []),
  (58, .iload_n 1, 59, 0, 0, 0, 0, .null, []),
  (59, .iaload, 60, 0, 0, 0, 0, .null, []),
  (60, .aload_n 0, 61, 0, 0, 0, 0, .null, []),
  (61, .getfield 57, 64, 11, 6, 1, 128, .null, []),
  (64, .iload_n 2, 65, 0, 0, 0, 0, .null, []),
  (65, .iaload, 66, 0, 0, 0, 0, .null, []),
  (66, .if_icmp .ge 7, 69, 73, 0, 0, 0, .null, []),
  (69, .iconst 1, 70, 0, 0, 0, 0, .int (nI 1), []),
  (70, .goto 4, 73, 74, 0, 0, 0, .null, []),
  (73, .iconst 0, 74, 0, 0, 0, 0, .int (nI 0), []),
  (74, .ireturn, 75, 0, 0, 0, 0, .int 1, [])]
def cd85 : List En := [(0, .aload_n 0, 1, 0, 0, 0, 0, .null, []),
  (1, .invokespecial 3, 4, 900, 0, 0, 81, .null, []),
  (4, .aload_n 0, 5, 0, 0, 0, 0, .null, []),
  (5, .bipush 10, 7, 0, 0, 0, 0, .int (nI 10), []),
  (7, .newarray .int, 9, 0, 0, 0, 0, .null, []),
  (9, .putfield 9, 12, 15, 0, 0, 82, .null, []),
  (12, .aload_n 0, 13, 0, 0, 0, 0, .null, []),
  (13, .iconst 0, 14, 0, 0, 0, 0, .int (nI 0), []),
  (14, .putfield 15, 17, 15, 1, 0, 83, .int 0, []),
  (17, .aload_n 0, 18, 0, 0, 0, 0, .null, []),
  (18, .iconst 0, 19, 0, 0, 0, 0, .int (nI 0), []),
  (19, .putfield 19, 22, 15, 2, 0, 86, .int 0, []),
  (22, .aload_n 0, 23, 0, 0, 0, 0, .null, []),
  (23, .iconst 0, 24, 0, 0, 0, 0, .int (nI 0), []),
  (24, .putfield 22, 27, 15, 3, 0, 90, .int 0, []),
  (27, .aload_n 0, 28, 0, 0, 0, 0, .null, []),
  (28, .iconst 1, 29, 0, 0, 0, 0, .int (nI 1), []),
  (29, .putfield 25, 32, 15, 4, 0, 92, .int 0, []),
  (32, .return_, 33, 0, 0, 0, 0, .null, [])]
def cd86 : List En := [(0, .aload_n 0, 1, 0, 0, 0, 0, .null, []),
  (1, .iconst 0, 2, 0, 0, 0, 0, .int (nI 0), []),
  (2, .putfield 15, 5, 15, 1, 0, 83, .int 0, []),
  (5, .aload_n 0, 6, 0, 0, 0, 0, .null, []),
  (6, .iconst 0, 7, 0, 0, 0, 0, .int (nI 0), []),
  (7, .putfield 19, 10, 15, 2, 0, 86, .int 0, []),
  (10, .aload_n 0, 11, 0, 0, 0, 0, .null, []),
  (11, .iconst 0, 12, 0, 0, 0, 0, .int (nI 0), []),
  (12, .putfield 22, 15, 15, 3, 0, 90, .int 0, []),
  (15, .aload_n 0, 16, 0, 0, 0, 0, .null, []),
  (16, .iconst 1, 17, 0, 0, 0, 0, .int (nI 1), []),
  (17, .putfield 25, 20, 15, 4, 0, 92, .int 0, []),
  (20, .return_, 21, 0, 0, 0, 0, .null, [])]
def cd87 : List En := [(0, .aload_n 0, 1, 0, 0, 0, 0, .null, []),
  (1, .getfield 15, 4, 15, 1, 0, 83, .int 0, []),
  (4, .ifCond .lt 17, 7, 21, 0, 0, 0, .null, []),
  (7, .aload_n 0, 8, 0, 0, 0, 0, .null, []),
  (8, .getfield 15, 11, 15, 1, 0, 83, .int 0, []),
  (11, .iconst 1, 12, 0, 0, 0, 0, .int (nI 1), []),
  (12, .iadd, 13, 0, 0, 0, 0, .null, []),
  (13, .aload_n 0, 14, 0, 0, 0, 0, .null, []),
  (14, .getfield 9, 17, 15, 0, 0, 82, .null, []),
  (17, .arraylength, 18, 0, 0, 0, 0, .null, []),
  (18, .if_icmp .lt 4, 21, 22, 0, 0, 0, .null, []),
  (21, .return_, 22, 0, 0, 0, 0, .null, []),
  (22, .aload_n 0, 23, 0, 0, 0, 0, .null, []),
  (23, .dup, 24, 0, 0, 0, 0, .null, []),
  (24, .getfield 15, 27, 15, 1, 0, 83, .int 0, []),
  (27, .iconst 1, 28, 0, 0, 0, 0, .int (nI 1), []),
  (28, .iadd, 29, 0, 0, 0, 0, .null, []),
  (29, .putfield 15, 32, 15, 1, 0, 83, .int 0, []),
  (32, .aload_n 0, 33, 0, 0, 0, 0, .null, []),
  (33, .getfield 9, 36, 15, 0, 0, 82, .null, []),
  (36, .aload_n 0, 37, 0, 0, 0, 0, .null, []),
  (37, .getfield 15, 40, 15, 1, 0, 83, .int 0, []),
  (40, .iload_n 2, 41, 0, 0, 0, 0, .null, []),
  (41, .iastore, 42, 0, 0, 0, 0, .null, []),
  (42, .aload_n 0, 43, 0, 0, 0, 0, .null, []),
  (43, .dup, 44, 0, 0, 0, 0, .null, []),
  (44, .getfield 19, 47, 15, 2, 0, 86, .int 0, []),
  (47, .iload_n 3, 48, 0, 0, 0, 0, .null, []),
  (48, .iadd, 49, 0, 0, 0, 0, .null, []),
  (49, .putfield 19, 52, 15, 2, 0, 86, .int 0, []),
  (52, .aload_n 0, 53, 0, 0, 0, 0, .null, []),
  (53, .dup, 54, 0, 0, 0, 0, .null, []),
  (54, .getfield 22, 57, 15, 3, 0, 90, .int 0, []),
  (57, .iconst 1, 58, 0, 0, 0, 0, .int (nI 1), []),
  (58, .iload_n 1, 59, 0, 0, 0, 0, .null, []),
  (59, .ishl, 60, 0, 0, 0, 0, .null, []),
  (60, .ior, 61, 0, 0, 0, 0, .null, []),
  (61, .putfield 22, 64, 15, 3, 0, 90, .int 0, []),
  (64, .aload_n 0, 65, 0, 0, 0, 0, .null, []),
  (65, .dup, 66, 0, 0, 0, 0, .null, []),
  (66, .getfield 25, 69, 15, 4, 0, 92, .int 0, []),
  (69, .iconst 1, 70, 0, 0, 0, 0, .int (nI 1), []),
  (70, .iload_n 2, 71, 0, 0, 0, 0, .null, []),
  (71, .ishl, 72, 0, 0, 0, 0, .null, []),
  (72, .ior, 73, 0, 0, 0, 0, .null, []),
  (73, .putfield 25, 76, 15, 4, 0, 92, .int 0, []),
  (76, .return_, 77, 0, 0, 0, 0, .null, [])]
def cd88 : List En := [(0, .iload_n 1, 1, 0, 0, 0, 0, .null, []),
  (1, .ifCond .lt 21, 4, 22, 0, 0, 0, .null, []),
  (4, .iload_n 1, 5, 0, 0, 0, 0, .null, []),
  (5, .aload_n 0, 6, 0, 0, 0, 0, .null, []),
  (6, .getfield 9, 9, 15, 0, 0, 82, .null, []),
  (9, .arraylength, 10, 0, 0, 0, 0, .null, []),
  (10, .if_icmp .ge 12, 13, 22, 0, 0, 0, .null, []),
  (13, .aload_n 0, 14, 0, 0, 0, 0, .null, []),
  (14, .getfield 9, 17, 15, 0, 0, 82, .null, []),
  (17, .iload_n 1, 18, 0, 0, 0, 0, .null, []),
  (18, .iaload, 19, 0, 0, 0, 0, .null, []),
  (19, .goto 4, 22, 23, 0, 0, 0, .null, []),
  (22, .iconst (-1), 23, 0, 0, 0, 0, .int ((-1)), []),
  (23, .ireturn, 24, 0, 0, 0, 0, .int 0, [])]
def cd89 : List En := [(0, .aload_n 0, 1, 0, 0, 0, 0, .null, []),
  (1, .aload_n 0, 2, 0, 0, 0, 0, .null, []),
  (2, .getfield 15, 5, 15, 1, 0, 83, .int 0, []),
  (5, .invokevirtual 28, 8, 88, 0, 15, 409, .retAddr 2, []),
  (8, .ireturn, 9, 0, 0, 0, 0, .int 0, [])]
def cd90 : List En := [(0, .aload_n 0, 1, 0, 0, 0, 0, .null, []),
  (1, .getfield 22, 4, 15, 3, 0, 90, .int 0, []),
  (4, .iload_n 1, 5, 0, 0, 0, 0, .null, []),
  (5, .invokestatic 32, 8, 26, 0, 0, 425, .retAddr 2, []),
  (8, .ireturn, 9, 0, 0, 0, 0, .int 1, [])]
def cd91 : List En := [(0, .aload_n 0, 1, 0, 0, 0, 0, .null, []),
  (1, .getfield 25, 4, 15, 4, 0, 92, .int 0, []),
  (4, .iload_n 1, 5, 0, 0, 0, 0, .null, []),
  (5, .invokestatic 32, 8, 26, 0, 0, 425, .retAddr 2, []),
  (8, .ireturn, 9, 0, 0, 0, 0, .int 1, [])]
def cd92 : List En := [(0, .iload_n 1, 1, 0, 0, 0, 0, .null, []),
  (1, .iconst (-1), 2, 0, 0, 0, 0, .int ((-1)), []),
  (2, .if_icmp .eq 18, 5, 20, 0, 0, 0, .null, []),
  (5, .aload_n 0, 6, 0, 0, 0, 0, .null, []),
  (6, .getfield 25, 9, 15, 4, 0, 92, .int 0, []),
  (9, .iload_n 1, 10, 0, 0, 0, 0, .null, []),
  (10, .invokestatic 32, 13, 26, 0, 0, 425, .retAddr 2, []),
  (13, .ifCond .ne 7, 16, 20, 0, 0, 0, .null, []),
  (16, .iconst 1, 17, 0, 0, 0, 0, .int (nI 1), []),
  (17, .goto 4, 20, 21, 0, 0, 0, .null, []),
  (20, .iconst 0, 21, 0, 0, 0, 0, .int (nI 0), []),
  (21, .ireturn, 22, 0, 0, 0, 0, .int 1, [])]
def cd93 : List En := [(0, .aload_n 0, 1, 0, 0, 0, 0, .null, []),
  (1, .ifnull 7, 4, 8, 0, 0, 0, .null, []),
  (4, .aload_n 1, 5, 0, 0, 0, 0, .null, []),
  (5, .ifnonnull 4, 8, 9, 0, 0, 0, .null, []),
  (8, .return_, 9, 0, 0, 0, 0, .null, []),
  (9, .aload_n 0, 10, 0, 0, 0, 0, .null, []),
  (10, .getfield 9, 13, 15, 0, 0, 82, .null, []),
  (13, .aload_n 1, 14, 0, 0, 0, 0, .null, []),
  (14, .getfield 9, 17, 15, 0, 0, 82, .null, []),
  (17, .invokestatic 36, 20, 27, 1, 0, 309, .retAddr 2, []),
  (20, .aload_n 1, 21, 0, 0, 0, 0, .null, []),
  (21, .aload_n 0, 22, 0, 0, 0, 0, .null, []),
  (22, .getfield 15, 25, 15, 1, 0, 83, .int 0, []),
  (25, .putfield 15, 28, 15, 1, 0, 83, .int 0, []),
  (28, .aload_n 1, 29, 0, 0, 0, 0, .null, []),
  (29, .aload_n 0, 30, 0, 0, 0, 0, .null, []),
  (30, .getfield 19, 33, 15, 2, 0, 86, .int 0, []),
  (33, .putfield 19, 36, 15, 2, 0, 86, .int 0, []),
  (36, .aload_n 1, 37, 0, 0, 0, 0, .null, []),
  (37, .aload_n 0, 38, 0, 0, 0, 0, .null, []),
  (38, .getfield 22, 41, 15, 3, 0, 90, .int 0, []),
  (41, .putfield 22, 44, 15, 3, 0, 90, .int 0, []),
  (44, .aload_n 1, 45, 0, 0, 0, 0, .null, []),
  (45, .aload_n 0, 46, 0, 0, 0, 0, .null, []),
  (46, .getfield 25, 49, 15, 4, 0, 92, .int 0, []),
  (49, .putfield 25, 52, 15, 4, 0, 92, .int 0, []),
  (52, .return_, 53, 0, 0, 0, 0, .null, [])]
def cd94_0 : List En := [(0, .aload_n 0, 1, 0, 0, 0, 0, .null, []),
  (1, .invokespecial 1, 4, 900, 0, 0, 703, .null, []),
  (4, .aload_n 0, 5, 0, 0, 0, 0, .null, []),
  (5, .sipush 146, 8, 0, 0, 0, 0, .int (nI 146), []),
  (8, .newarray .int, 10, 0, 0, 0, 0, .null, []),
  (10, .putfield 7, 13, 17, 0, 0, 704, .null, []),
  (13, .aload_n 0, 14, 0, 0, 0, 0, .null, []),
  (14, .sipush 146, 17, 0, 0, 0, 0, .int (nI 146), []),
  (17, .newarray .int, 19, 0, 0, 0, 0, .null, []),
  (19, .putfield 13, 22, 17, 1, 0, 705, .null, []),
  (22, .aload_n 0, 23, 0, 0, 0, 0, .null, []),
  (23, .sipush 146, 26, 0, 0, 0, 0, .int (nI 146), []),
  (26, .newarray .int, 28, 0, 0, 0, 0, .null, []),
  (28, .putfield 16, 31, 17, 2, 0, 706, .null, []),
  (31, .aload_n 0, 32, 0, 0, 0, 0, .null, []),
  (32, .sipush 584, 35, 0, 0, 0, 0, .int (nI 584), []),
  (35, .newarray .int, 37, 0, 0, 0, 0, .null, []),
  (37, .putfield 19, 40, 17, 3, 0, 707, .null, []),
  (40, .aload_n 0, 41, 0, 0, 0, 0, .null, []),
  (41, .bipush 60, 43, 0, 0, 0, 0, .int (nI 60), []),
  (43, .newarray .int, 45, 0, 0, 0, 0, .null, []),
  (45, .putfield 22, 48, 17, 5, 0, 709, .null, []),
  (48, .aload_n 0, 49, 0, 0, 0, 0, .null, []),
  (49, .bipush 10, 51, 0, 0, 0, 0, .int (nI 10), []),
  (51, .newarray .int, 53, 0, 0, 0, 0, .null, []),
  (53, .putfield 25, 56, 17, 7, 0, 711, .null, []),
  (56, .aload_n 0, 57, 0, 0, 0, 0, .null, []),
  (57, .bipush 10, 59, 0, 0, 0, 0, .int (nI 10), []),
  (59, .newarray .int, 61, 0, 0, 0, 0, .null, []),
  (61, .putfield 28, 64, 17, 14, 0, 718, .null, []),
  (64, .aload_n 0, 65, 0, 0, 0, 0, .null, []),
  (65, .iconst 5, 66, 0, 0, 0, 0, .int (nI 5), []),
  (66, .newarray .int, 68, 0, 0, 0, 0, .null, []),
  (68, .putfield 31, 71, 17, 15, 0, 719, .null, []),
  (71, .aload_n 0, 72, 0, 0, 0, 0, .null, []),
  (72, .iconst 5, 73, 0, 0, 0, 0, .int (nI 5), []),
  (73, .newarray .int, 75, 0, 0, 0, 0, .null, []),
  (75, .putfield 34, 78, 17, 16, 0, 720, .null, []),
  (78, .aload_n 0, 79, 0, 0, 0, 0, .null, []),
  (79, .iconst 3, 80, 0, 0, 0, 0, .int (nI 3), []),
  (80, .newarray .int, 82, 0, 0, 0, 0, .null, []),
  (82, .putfield 37, 85, 17, 22, 0, 726, .null, []),
  (85, .aload_n 0, 86, 0, 0, 0, 0, .null, []),
  (86, .getfield 7, 89, 17, 0, 0, 704, .null, []),
  (89, .bipush 7, 91, 0, 0, 0, 0, .int (nI 7), []),
  (91, .iconst 1, 92, 0, 0, 0, 0, .int (nI 1), []),
  (92, .iastore, 93, 0, 0, 0, 0, .null, []),
  (93, .aload_n 0, 94, 0, 0, 0, 0, .null, []),
  (94, .getfield 7, 97, 17, 0, 0, 704, .null, []),
  (97, .bipush 8, 99, 0, 0, 0, 0, .int (nI 8), [])]
def cd94_1 : List En := [(99, .iconst 1, 100, 0, 0, 0, 0, .int (nI 1), []),
  (100, .iastore, 101, 0, 0, 0, 0, .null, []),
  (101, .aload_n 0, 102, 0, 0, 0, 0, .null, []),
  (102, .getfield 7, 105, 17, 0, 0, 704, .null, []),
  (105, .bipush 13, 107, 0, 0, 0, 0, .int (nI 13), []),
  (107, .iconst 4, 108, 0, 0, 0, 0, .int (nI 4), []),
  (108, .iastore, 109, 0, 0, 0, 0, .null, []),
  (109, .aload_n 0, 110, 0, 0, 0, 0, .null, []),
  (110, .getfield 7, 113, 17, 0, 0, 704, .null, []),
  (113, .bipush 14, 115, 0, 0, 0, 0, .int (nI 14), []),
  (115, .bipush 20, 117, 0, 0, 0, 0, .int (nI 20), []),
  (117, .iastore, 118, 0, 0, 0, 0, .null, []),
  (118, .aload_n 0, 119, 0, 0, 0, 0, .null, []),
  (119, .getfield 7, 122, 17, 0, 0, 704, .null, []),
  (122, .bipush 15, 124, 0, 0, 0, 0, .int (nI 15), []),
  (124, .bipush 100, 126, 0, 0, 0, 0, .int (nI 100), []),
  (126, .iastore, 127, 0, 0, 0, 0, .null, []),
  (127, .aload_n 0, 128, 0, 0, 0, 0, .null, []),
  (128, .getfield 7, 131, 17, 0, 0, 704, .null, []),
  (131, .bipush 16, 133, 0, 0, 0, 0, .int (nI 16), []),
  (133, .iconst 1, 134, 0, 0, 0, 0, .int (nI 1), []),
  (134, .iastore, 135, 0, 0, 0, 0, .null, []),
  (135, .aload_n 0, 136, 0, 0, 0, 0, .null, []),
  (136, .getfield 7, 139, 17, 0, 0, 704, .null, []),
  (139, .bipush 17, 141, 0, 0, 0, 0, .int (nI 17), []),
  (141, .bipush 10, 143, 0, 0, 0, 0, .int (nI 10), []),
  (143, .iastore, 144, 0, 0, 0, 0, .null, []),
  (144, .aload_n 0, 145, 0, 0, 0, 0, .null, []),
  (145, .getfield 7, 148, 17, 0, 0, 704, .null, []),
  (148, .bipush 18, 150, 0, 0, 0, 0, .int (nI 18), []),
  (150, .sipush 1000, 153, 0, 0, 0, 0, .int (nI 1000), []),
  (153, .iastore, 154, 0, 0, 0, 0, .null, []),
  (154, .aload_n 0, 155, 0, 0, 0, 0, .null, []),
  (155, .getfield 7, 158, 17, 0, 0, 704, .null, []),
  (158, .bipush 19, 160, 0, 0, 0, 0, .int (nI 19), []),
  (160, .bipush 60, 162, 0, 0, 0, 0, .int (nI 60), []),
  (162, .iastore, 163, 0, 0, 0, 0, .null, []),
  (163, .return_, 164, 0, 0, 0, 0, .null, [])]
def cd94 : List En := cd94_0 ++ (cd94_1)
def cd95 : List En := [(0, .iload_n 0, 1, 0, 0, 0, 0, .null, []),
  (1, .iload_n 1, 2, 0, 0, 0, 0, .null, []),
  (2, .if_icmp .lt 12, 5, 14, 0, 0, 0, .null, []),
  (5, .iload_n 0, 6, 0, 0, 0, 0, .null, []),
  (6, .iload_n 2, 7, 0, 0, 0, 0, .null, []),
  (7, .if_icmp .gt 7, 10, 14, 0, 0, 0, .null, []),
  (10, .iconst 1, 11, 0, 0, 0, 0, .int (nI 1), []),
  (11, .goto 4, 14, 15, 0, 0, 0, .null, []),
  (14, .iconst 0, 15, 0, 0, 0, 0, .int (nI 0), []),
  (15, .ireturn, 16, 0, 0, 0, 0, .int 1, [])]
def cd96 : List En := [(0, .iload_n 0, 1, 0, 0, 0, 0, .null, []),
  (1, .ldc 40, 3, 0, 0, 0, 793, .int ((-1000000004)), []),
  (3, .ldc 41, 5, 0, 0, 0, 794, .int ((-1000000001)), []),
  (5, .invokestatic 42, 8, 95, 0, 0, 795, .retAddr 3, []),
  (8, .ireturn, 9, 0, 0, 0, 0, .int 1, [])]
def cd97 : List En := [(0, .iconst 0, 1, 0, 0, 0, 0, .int (nI 0), []),
  (1, .istore_n 2, 2, 0, 0, 0, 0, .null, []),
  (2, .iload_n 2, 3, 0, 0, 0, 0, .null, []),
  (3, .sipush 146, 6, 0, 0, 0, 0, .int (nI 146), []),
  (6, .if_icmp .ge 15, 9, 21, 0, 0, 0, .null, []),
  (9, .aload_n 1, 10, 0, 0, 0, 0, .null, []),
  (10, .iload_n 2, 11, 0, 0, 0, 0, .null, []),
  (11, .aload_n 0, 12, 0, 0, 0, 0, .null, []),
  (12, .iload_n 2, 13, 0, 0, 0, 0, .null, []),
  (13, .iaload, 14, 0, 0, 0, 0, .null, []),
  (14, .iastore, 15, 0, 0, 0, 0, .null, []),
  (15, .iinc 2 1, 18, 0, 0, 0, 0, .null, []),
  (18, .goto (-16), 21, 2, 0, 0, 0, .null, []),
  (21, .return_, 22, 0, 0, 0, 0, .null, [])]
def cd98 : List En := [(0, .aload_n 0, 1, 0, 0, 0, 0, .null, []),
  (1, .getfield 7, 4, 17, 0, 0, 704, .null, []),
  (4, .aload_n 0, 5, 0, 0, 0, 0, .null, []),
  (5, .getfield 13, 8, 17, 1, 0, 705, .null, []),
  (8, .invokestatic 46, 11, 97, 1, 0, 783, .retAddr 2, []),
  (11, .return_, 12, 0, 0, 0, 0, .null, [])]
def cd99_0 : List En := [(0, .iload_n 1, 1, 0, 0, 0, 0, .null, []),
  (1, .invokestatic 50, 4, 96, 0, 0, 790, .retAddr 1, []),
  (4, .ifCond .eq 16, 7, 20, 0, 0, 0, .null, []),
  (7, .aload_n 0, 8, 0, 0, 0, 0, .null, []),
  (8, .getfield 13, 11, 17, 1, 0, 705, .null, []),
  (11, .aload_n 0, 12, 0, 0, 0, 0, .null, []),
  (12, .getfield 7, 15, 17, 0, 0, 704, .null, []),
  (15, .invokestatic 46, 18, 97, 1, 0, 783, .retAddr 2, []),
  (18, .iload_n 1, 19, 0, 0, 0, 0, .null, []),
  (19, .ireturn, 20, 0, 0, 0, 0, .int 0, []),
  (20, .aload_n 0, 21, 0, 0, 0, 0, .null, []),
  (21, .getfield 54, 24, 17, 4, 0, 708, .int 0, []),
  (24, .iconst 4, 25, 0, 0, 0, 0, .int (nI 4), []),
  (25, .if_icmp .ne 44, 28, 69, 0, 0, 0, .null, []),
  (28, .iconst 0, 29, 0, 0, 0, 0, .int (nI 0), []),
  (29, .istore_n 2, 30, 0, 0, 0, 0, .null, []),
  (30, .iload_n 2, 31, 0, 0, 0, 0, .null, []),
  (31, .sipush 438, 34, 0, 0, 0, 0, .int (nI 438), []),
  (34, .if_icmp .ge 25, 37, 59, 0, 0, 0, .null, []),
  (37, .aload_n 0, 38, 0, 0, 0, 0, .null, []),
  (38, .getfield 19, 41, 17, 3, 0, 707, .null, []),
  (41, .iload_n 2, 42, 0, 0, 0, 0, .null, []),
  (42, .aload_n 0, 43, 0, 0, 0, 0, .null, []),
  (43, .getfield 19, 46, 17, 3, 0, 707, .null, []),
  (46, .iload_n 2, 47, 0, 0, 0, 0, .null, []),
  (47, .sipush 146, 50, 0, 0, 0, 0, .int (nI 146), []),
  (50, .iadd, 51, 0, 0, 0, 0, .null, []),
  (51, .iaload, 52, 0, 0, 0, 0, .null, []),
  (52, .iastore, 53, 0, 0, 0, 0, .null, []),
  (53, .iinc 2 1, 56, 0, 0, 0, 0, .null, []),
  (56, .goto (-26), 59, 30, 0, 0, 0, .null, []),
  (59, .aload_n 0, 60, 0, 0, 0, 0, .null, []),
  (60, .dup, 61, 0, 0, 0, 0, .null, []),
  (61, .getfield 54, 64, 17, 4, 0, 708, .int 0, []),
  (64, .iconst 1, 65, 0, 0, 0, 0, .int (nI 1), []),
  (65, .isub, 66, 0, 0, 0, 0, .null, []),
  (66, .putfield 54, 69, 17, 4, 0, 708, .int 0, []),
  (69, .iconst 0, 70, 0, 0, 0, 0, .int (nI 0), []),
  (70, .istore_n 2, 71, 0, 0, 0, 0, .null, []),
  (71, .iload_n 2, 72, 0, 0, 0, 0, .null, []),
  (72, .sipush 146, 75, 0, 0, 0, 0, .int (nI 146), []),
  (75, .if_icmp .ge 30, 78, 105, 0, 0, 0, .null, []),
  (78, .aload_n 0, 79, 0, 0, 0, 0, .null, []),
  (79, .getfield 19, 82, 17, 3, 0, 707, .null, []),
  (82, .sipush 146, 85, 0, 0, 0, 0, .int (nI 146), []),
  (85, .aload_n 0, 86, 0, 0, 0, 0, .null, []),
  (86, .getfield 54, 89, 17, 4, 0, 708, .int 0, []),
  (89, .imul, 90, 0, 0, 0, 0, .null, []),
  (90, .iload_n 2, 91, 0, 0, 0, 0, .null, []),
  (91, .iadd, 92, 0, 0, 0, 0, .null, [])]
def cd99_1 : List En := [(92, .aload_n 0, 93, 0, 0, 0, 0, .null, []),
  (93, .getfield 13, 96, 17, 1, 0, 705, .null, []),
  (96, .iload_n 2, 97, 0, 0, 0, 0, .null, []),
  (97, .iaload, 98, 0, 0, 0, 0, .null, []),
  (98, .iastore, 99, 0, 0, 0, 0, .null, []),
  (99, .iinc 2 1, 102, 0, 0, 0, 0, .null, []),
  (102, .goto (-31), 105, 71, 0, 0, 0, .null, []),
  (105, .aload_n 0, 106, 0, 0, 0, 0, .null, []),
  (106, .dup, 107, 0, 0, 0, 0, .null, []),
  (107, .getfield 54, 110, 17, 4, 0, 708, .int 0, []),
  (110, .iconst 1, 111, 0, 0, 0, 0, .int (nI 1), []),
  (111, .iadd, 112, 0, 0, 0, 0, .null, []),
  (112, .putfield 54, 115, 17, 4, 0, 708, .int 0, []),
  (115, .iload_n 1, 116, 0, 0, 0, 0, .null, []),
  (116, .ireturn, 117, 0, 0, 0, 0, .int 0, [])]
def cd99 : List En := cd99_0 ++ (cd99_1)
def cd100 : List En := [(0, .iload_n 1, 1, 0, 0, 0, 0, .null, []),
  (1, .iconst 0, 2, 0, 0, 0, 0, .int (nI 0), []),
  (2, .aload_n 0, 3, 0, 0, 0, 0, .null, []),
  (3, .getfield 7, 6, 17, 0, 0, 704, .null, []),
  (6, .iconst 0, 7, 0, 0, 0, 0, .int (nI 0), []),
  (7, .iaload, 8, 0, 0, 0, 0, .null, []),
  (8, .iconst 1, 9, 0, 0, 0, 0, .int (nI 1), []),
  (9, .isub, 10, 0, 0, 0, 0, .null, []),
  (10, .invokestatic 42, 13, 95, 0, 0, 795, .retAddr 3, []),
  (13, .ireturn, 14, 0, 0, 0, 0, .int 1, [])]
def cd101 : List En := [(0, .iload_n 1, 1, 0, 0, 0, 0, .null, []),
  (1, .iconst 0, 2, 0, 0, 0, 0, .int (nI 0), []),
  (2, .aload_n 0, 3, 0, 0, 0, 0, .null, []),
  (3, .getfield 7, 6, 17, 0, 0, 704, .null, []),
  (6, .iconst 1, 7, 0, 0, 0, 0, .int (nI 1), []),
  (7, .iaload, 8, 0, 0, 0, 0, .null, []),
  (8, .iconst 1, 9, 0, 0, 0, 0, .int (nI 1), []),
  (9, .isub, 10, 0, 0, 0, 0, .null, []),
  (10, .invokestatic 42, 13, 95, 0, 0, 795, .retAddr 3, []),
  (13, .ireturn, 14, 0, 0, 0, 0, .int 1, [])]
def cd102 : List En := [(0, .aload_n 0, 1, 0, 0, 0, 0, .null, []),
  (1, .getfield 7, 4, 17, 0, 0, 704, .null, []),
  (4, .bipush 30, 6, 0, 0, 0, 0, .int (nI 30), []),
  (6, .bipush 6, 8, 0, 0, 0, 0, .int (nI 6), []),
  (8, .iload_n 1, 9, 0, 0, 0, 0, .null, []),
  (9, .imul, 10, 0, 0, 0, 0, .null, []),
  (10, .iadd, 11, 0, 0, 0, 0, .null, []),
  (11, .iload_n 2, 12, 0, 0, 0, 0, .null, []),
  (12, .iadd, 13, 0, 0, 0, 0, .null, []),
  (13, .iaload, 14, 0, 0, 0, 0, .null, []),
  (14, .ireturn, 15, 0, 0, 0, 0, .int 0, [])]
def cd103 : List En := [(0, .aload_n 0, 1, 0, 0, 0, 0, .null, []),
  (1, .getfield 7, 4, 17, 0, 0, 704, .null, []),
  (4, .bipush 30, 6, 0, 0, 0, 0, .int (nI 30), []),
  (6, .bipush 6, 8, 0, 0, 0, 0, .int (nI 6), []),
  (8, .iload_n 1, 9, 0, 0, 0, 0, .null, []),
  (9, .imul, 10, 0, 0, 0, 0, .null, []),
  (10, .iadd, 11, 0, 0, 0, 0, .null, []),
  (11, .iload_n 2, 12, 0, 0, 0, 0, .null, []),
  (12, .iadd, 13, 0, 0, 0, 0, .null, []),
  (13, .iload_n 3, 14, 0, 0, 0, 0, .null, []),
  (14, .iastore, 15, 0, 0, 0, 0, .null, []),
  (15, .return_, 16, 0, 0, 0, 0, .null, [])]
def cd104 : List En := [(0, .aload_n 0, 1, 0, 0, 0, 0, .null, []),
  (1, .iload_n 1, 2, 0, 0, 0, 0, .null, []),
  (2, .iconst 4, 3, 0, 0, 0, 0, .int (nI 4), []),
  (3, .invokevirtual 58, 6, 102, 0, 17, 826, .retAddr 3, []),
  (6, .ifCond .ne 7, 9, 13, 0, 0, 0, .null, []),
  (9, .iconst 1, 10, 0, 0, 0, 0, .int (nI 1), []),
  (10, .goto 4, 13, 14, 0, 0, 0, .null, []),
  (13, .iconst 0, 14, 0, 0, 0, 0, .int (nI 0), []),
  (14, .ireturn, 15, 0, 0, 0, 0, .int 1, [])]
def cd105 : List En := [(0, .aload_n 0, 1, 0, 0, 0, 0, .null, []),
  (1, .iload_n 1, 2, 0, 0, 0, 0, .null, []),
  (2, .iconst 0, 3, 0, 0, 0, 0, .int (nI 0), []),
  (3, .invokevirtual 58, 6, 102, 0, 17, 826, .retAddr 3, []),
  (6, .iload_n 2, 7, 0, 0, 0, 0, .null, []),
  (7, .if_icmp .ne 12, 10, 19, 0, 0, 0, .null, []),
  (10, .aload_n 0, 11, 0, 0, 0, 0, .null, []),
  (11, .iload_n 1, 12, 0, 0, 0, 0, .null, []),
  (12, .iconst 1, 13, 0, 0, 0, 0, .int (nI 1), []),
  (13, .invokevirtual 58, 16, 102, 0, 17, 826, .retAddr 3, []),
  (16, .goto 23, 19, 39, 0, 0, 0, .null, []),
  (19, .aload_n 0, 20, 0, 0, 0, 0, .null, []),
  (20, .iload_n 1, 21, 0, 0, 0, 0, .null, []),
  (21, .iconst 1, 22, 0, 0, 0, 0, .int (nI 1), []),
  (22, .invokevirtual 58, 25, 102, 0, 17, 826, .retAddr 3, []),
  (25, .iload_n 2, 26, 0, 0, 0, 0, .null, []),
  (26, .if_icmp .ne 12, 29, 38, 0, 0, 0, .null, []),
  (29, .aload_n 0, 30, 0, 0, 0, 0, .null, []),
  (30, .iload_n 1, 31, 0, 0, 0, 0, .null, []),
  (31, .iconst 0, 32, 0, 0, 0, 0, .int (nI 0), []),
  (32, .invokevirtual 58, 35, 102, 0, 17, 826, .retAddr 3, []),
  (35, .goto 4, 38, 39, 0, 0, 0, .null, []),
  (38, .iconst (-1), 39, 0, 0, 0, 0, .int ((-1)), []),
  (39, .ireturn, 40, 0, 0, 0, 0, .int 0, [])]
def cd106 : List En := [(0, .aload_n 0, 1, 0, 0, 0, 0, .null, []),
  (1, .iload_n 1, 2, 0, 0, 0, 0, .null, []),
  (2, .iconst 3, 3, 0, 0, 0, 0, .int (nI 3), []),
  (3, .invokevirtual 58, 6, 102, 0, 17, 826, .retAddr 3, []),
  (6, .bipush 20, 8, 0, 0, 0, 0, .int (nI 20), []),
  (8, .imul, 9, 0, 0, 0, 0, .null, []),
  (9, .aload_n 0, 10, 0, 0, 0, 0, .null, []),
  (10, .iload_n 1, 11, 0, 0, 0, 0, .null, []),
  (11, .iconst 2, 12, 0, 0, 0, 0, .int (nI 2), []),
  (12, .invokevirtual 58, 15, 102, 0, 17, 826, .retAddr 3, []),
  (15, .idiv, 16, 0, 0, 0, 0, .null, []),
  (16, .iconst 1, 17, 0, 0, 0, 0, .int (nI 1), []),
  (17, .iadd, 18, 0, 0, 0, 0, .null, []),
  (18, .ireturn, 19, 0, 0, 0, 0, .int 0, [])]
def cd107 : List En := [(0, .iconst 0, 1, 0, 0, 0, 0, .int (nI 0), []),
  (1, .istore_n 1, 2, 0, 0, 0, 0, .null, []),
  (2, .iconst 0, 3, 0, 0, 0, 0, .int (nI 0), []),
  (3, .istore_n 2, 4, 0, 0, 0, 0, .null, []),
  (4, .iload_n 2, 5, 0, 0, 0, 0, .null, []),
  (5, .aload_n 0, 6, 0, 0, 0, 0, .null, []),
  (6, .getfield 7, 9, 17, 0, 0, 704, .null, []),
  (9, .iconst 1, 10, 0, 0, 0, 0, .int (nI 1), []),
  (10, .iaload, 11, 0, 0, 0, 0, .null, []),
  (11, .if_icmp .ge 25, 14, 36, 0, 0, 0, .null, []),
  (14, .iload_n 1, 15, 0, 0, 0, 0, .null, []),
  (15, .aload_n 0, 16, 0, 0, 0, 0, .null, []),
  (16, .iload_n 2, 17, 0, 0, 0, 0, .null, []),
  (17, .invokevirtual 62, 20, 104, 0, 17, 835, .retAddr 2, []),
  (20, .ifCond .eq 7, 23, 27, 0, 0, 0, .null, []),
  (23, .iconst 1, 24, 0, 0, 0, 0, .int (nI 1), []),
  (24, .goto 4, 27, 28, 0, 0, 0, .null, []),
  (27, .iconst 0, 28, 0, 0, 0, 0, .int (nI 0), []),
  (28, .iadd, 29, 0, 0, 0, 0, .null, []),
  (29, .istore_n 1, 30, 0, 0, 0, 0, .null, []),
  (30, .iinc 2 1, 33, 0, 0, 0, 0, .null, []),
  (33, .goto (-29), 36, 4, 0, 0, 0, .null, []),
  (36, .iload_n 1, 37, 0, 0, 0, 0, .null, []),
  (37, .ireturn, 38, 0, 0, 0, 0, .int 0, [])]
def cd108 : List En := [(0, .iconst 0, 1, 0, 0, 0, 0, .int (nI 0), []),
  (1, .istore_n 2, 2, 0, 0, 0, 0, .null, []),
  (2, .iconst 0, 3, 0, 0, 0, 0, .int (nI 0), []),
  (3, .istore_n 3, 4, 0, 0, 0, 0, .null, []),
  (4, .iload_n 3, 5, 0, 0, 0, 0, .null, []),
  (5, .aload_n 0, 6, 0, 0, 0, 0, .null, []),
  (6, .getfield 7, 9, 17, 0, 0, 704, .null, []),
  (9, .iconst 1, 10, 0, 0, 0, 0, .int (nI 1), []),
  (10, .iaload, 11, 0, 0, 0, 0, .null, []),
  (11, .if_icmp .ge 35, 14, 46, 0, 0, 0, .null, []),
  (14, .iload_n 2, 15, 0, 0, 0, 0, .null, []),
  (15, .aload_n 0, 16, 0, 0, 0, 0, .null, []),
  (16, .iload_n 3, 17, 0, 0, 0, 0, .null, []),
  (17, .invokevirtual 62, 20, 104, 0, 17, 835, .retAddr 2, []),
  (20, .ifCond .eq 17, 23, 37, 0, 0, 0, .null, []),
  (23, .aload_n 0, 24, 0, 0, 0, 0, .null, []),
  (24, .iload_n 3, 25, 0, 0, 0, 0, .null, []),
  (25, .iload_n 1, 26, 0, 0, 0, 0, .null, []),
  (26, .invokevirtual 65, 29, 105, 0, 17, 879, .retAddr 3, []),
  (29, .iconst (-1), 30, 0, 0, 0, 0, .int ((-1)), []),
  (30, .if_icmp .eq 7, 33, 37, 0, 0, 0, .null, []),
  (33, .iconst 1, 34, 0, 0, 0, 0, .int (nI 1), []),
  (34, .goto 4, 37, 38, 0, 0, 0, .null, []),
  (37, .iconst 0, 38, 0, 0, 0, 0, .int (nI 0), []),
  (38, .iadd, 39, 0, 0, 0, 0, .null, []),
  (39, .istore_n 2, 40, 0, 0, 0, 0, .null, []),
  (40, .iinc 3 1, 43, 0, 0, 0, 0, .null, []),
  (43, .goto (-39), 46, 4, 0, 0, 0, .null, []),
  (46, .iload_n 2, 47, 0, 0, 0, 0, .null, []),
  (47, .ireturn, 48, 0, 0, 0, 0, .int 0, [])]
def cd109 : List En := [(0, .iconst 0, 1, 0, 0, 0, 0, .int (nI 0), []),
  (1, .istore_n 1, 2, 0, 0, 0, 0, .null, []),
  (2, .iconst 0, 3, 0, 0, 0, 0, .int (nI 0), []),
  (3, .istore_n 2, 4, 0, 0, 0, 0, .null, []),
  (4, .iload_n 2, 5, 0, 0, 0, 0, .null, []),
  (5, .aload_n 0, 6, 0, 0, 0, 0, .null, []),
  (6, .getfield 7, 9, 17, 0, 0, 704, .null, []),
  (9, .iconst 1, 10, 0, 0, 0, 0, .int (nI 1), []),
  (10, .iaload, 11, 0, 0, 0, 0, .null, []),
  (11, .if_icmp .ge 18, 14, 29, 0, 0, 0, .null, []),
  (14, .iload_n 1, 15, 0, 0, 0, 0, .null, []),
  (15, .aload_n 0, 16, 0, 0, 0, 0, .null, []),
  (16, .iload_n 2, 17, 0, 0, 0, 0, .null, []),
  (17, .iconst 3, 18, 0, 0, 0, 0, .int (nI 3), []),
  (18, .invokevirtual 58, 21, 102, 0, 17, 826, .retAddr 3, []),
  (21, .iadd, 22, 0, 0, 0, 0, .null, []),
  (22, .istore_n 1, 23, 0, 0, 0, 0, .null, []),
  (23, .iinc 2 1, 26, 0, 0, 0, 0, .null, []),
  (26, .goto (-22), 29, 4, 0, 0, 0, .null, []),
  (29, .iload_n 1, 30, 0, 0, 0, 0, .null, []),
  (30, .ireturn, 31, 0, 0, 0, 0, .int 0, [])]
def cd110_0 : List En := [(0, .iconst 0, 1, 0, 0, 0, 0, .int (nI 0), []),
  (1, .istore_n 2, 2, 0, 0, 0, 0, .null, []),
  (2, .iload_n 2, 3, 0, 0, 0, 0, .null, []),
  (3, .bipush 10, 5, 0, 0, 0, 0, .int (nI 10), []),
  (5, .if_icmp .ge 26, 8, 31, 0, 0, 0, .null, []),
  (8, .aload_n 0, 9, 0, 0, 0, 0, .null, []),
  (9, .getfield 25, 12, 17, 7, 0, 711, .null, []),
  (12, .iload_n 2, 13, 0, 0, 0, 0, .null, []),
  (13, .iload_n 2, 14, 0, 0, 0, 0, .null, []),
  (14, .ifCond .ne 7, 17, 21, 0, 0, 0, .null, []),
  (17, .iconst 0, 18, 0, 0, 0, 0, .int (nI 0), []),
  (18, .goto 6, 21, 24, 0, 0, 0, .null, []),
  (21, .sipush 1000, 24, 0, 0, 0, 0, .int (nI 1000), []),
  (24, .iastore, 25, 0, 0, 0, 0, .null, []),
  (25, .iinc 2 1, 28, 0, 0, 0, 0, .null, []),
  (28, .goto (-26), 31, 2, 0, 0, 0, .null, []),
  (31, .iconst 0, 32, 0, 0, 0, 0, .int (nI 0), []),
  (32, .istore_n 2, 33, 0, 0, 0, 0, .null, []),
  (33, .iload_n 2, 34, 0, 0, 0, 0, .null, []),
  (34, .aload_n 0, 35, 0, 0, 0, 0, .null, []),
  (35, .getfield 7, 38, 17, 0, 0, 704, .null, []),
  (38, .iconst 0, 39, 0, 0, 0, 0, .int (nI 0), []),
  (39, .iaload, 40, 0, 0, 0, 0, .null, []),
  (40, .if_icmp .ge 159, 43, 199, 0, 0, 0, .null, []),
  (43, .iconst 0, 44, 0, 0, 0, 0, .int (nI 0), []),
  (44, .istore_n 3, 45, 0, 0, 0, 0, .null, []),
  (45, .iload_n 3, 46, 0, 0, 0, 0, .null, []),
  (46, .aload_n 0, 47, 0, 0, 0, 0, .null, []),
  (47, .getfield 7, 50, 17, 0, 0, 704, .null, []),
  (50, .iconst 1, 51, 0, 0, 0, 0, .int (nI 1), []),
  (51, .iaload, 52, 0, 0, 0, 0, .null, []),
  (52, .if_icmp .ge 141, 55, 193, 0, 0, 0, .null, []),
  (55, .aload_n 0, 56, 0, 0, 0, 0, .null, []),
  (56, .iload_n 3, 57, 0, 0, 0, 0, .null, []),
  (57, .iconst 0, 58, 0, 0, 0, 0, .int (nI 0), []),
  (58, .invokevirtual 58, 61, 102, 0, 17, 826, .retAddr 3, []),
  (61, .istore 4, 63, 0, 0, 0, 0, .null, []),
  (63, .aload_n 0, 64, 0, 0, 0, 0, .null, []),
  (64, .iload_n 3, 65, 0, 0, 0, 0, .null, []),
  (65, .iconst 1, 66, 0, 0, 0, 0, .int (nI 1), []),
  (66, .invokevirtual 58, 69, 102, 0, 17, 826, .retAddr 3, []),
  (69, .istore 5, 71, 0, 0, 0, 0, .null, []),
  (71, .aload_n 0, 72, 0, 0, 0, 0, .null, []),
  (72, .iload_n 3, 73, 0, 0, 0, 0, .null, []),
  (73, .invokevirtual 62, 76, 104, 0, 17, 835, .retAddr 2, []),
  (76, .ifCond .eq 12, 79, 88, 0, 0, 0, .null, []),
  (79, .aload_n 0, 80, 0, 0, 0, 0, .null, []),
  (80, .iload_n 3, 81, 0, 0, 0, 0, .null, []),
  (81, .iconst 2, 82, 0, 0, 0, 0, .int (nI 2), []),
  (82, .invokevirtual 58, 85, 102, 0, 17, 826, .retAddr 3, [])]
def cd110_1 : List En := [(85, .goto 6, 88, 91, 0, 0, 0, .null, []),
  (88, .sipush 1000, 91, 0, 0, 0, 0, .int (nI 1000), []),
  (91, .istore 6, 93, 0, 0, 0, 0, .null, []),
  (93, .aload_n 0, 94, 0, 0, 0, 0, .null, []),
  (94, .getfield 25, 97, 17, 7, 0, 711, .null, []),
  (97, .iload 4, 99, 0, 0, 0, 0, .null, []),
  (99, .aload_n 0, 100, 0, 0, 0, 0, .null, []),
  (100, .getfield 25, 103, 17, 7, 0, 711, .null, []),
  (103, .iload 5, 105, 0, 0, 0, 0, .null, []),
  (105, .iaload, 106, 0, 0, 0, 0, .null, []),
  (106, .iload 6, 108, 0, 0, 0, 0, .null, []),
  (108, .iadd, 109, 0, 0, 0, 0, .null, []),
  (109, .aload_n 0, 110, 0, 0, 0, 0, .null, []),
  (110, .getfield 25, 113, 17, 7, 0, 711, .null, []),
  (113, .iload 4, 115, 0, 0, 0, 0, .null, []),
  (115, .iaload, 116, 0, 0, 0, 0, .null, []),
  (116, .if_icmp .ge 16, 119, 132, 0, 0, 0, .null, []),
  (119, .aload_n 0, 120, 0, 0, 0, 0, .null, []),
  (120, .getfield 25, 123, 17, 7, 0, 711, .null, []),
  (123, .iload 5, 125, 0, 0, 0, 0, .null, []),
  (125, .iaload, 126, 0, 0, 0, 0, .null, []),
  (126, .iload 6, 128, 0, 0, 0, 0, .null, []),
  (128, .iadd, 129, 0, 0, 0, 0, .null, []),
  (129, .goto 10, 132, 139, 0, 0, 0, .null, []),
  (132, .aload_n 0, 133, 0, 0, 0, 0, .null, []),
  (133, .getfield 25, 136, 17, 7, 0, 711, .null, []),
  (136, .iload 4, 138, 0, 0, 0, 0, .null, []),
  (138, .iaload, 139, 0, 0, 0, 0, .null, []),
  (139, .iastore, 140, 0, 0, 0, 0, .null, []),
  (140, .aload_n 0, 141, 0, 0, 0, 0, .null, []),
  (141, .getfield 25, 144, 17, 7, 0, 711, .null, []),
  (144, .iload 5, 146, 0, 0, 0, 0, .null, []),
  (146, .aload_n 0, 147, 0, 0, 0, 0, .null, []),
  (147, .getfield 25, 150, 17, 7, 0, 711, .null, []),
  (150, .iload 4, 152, 0, 0, 0, 0, .null, []),
  (152, .iaload, 153, 0, 0, 0, 0, .null, []),
  (153, .iload 6, 155, 0, 0, 0, 0, .null, []),
  (155, .iadd, 156, 0, 0, 0, 0, .null, []),
  (156, .aload_n 0, 157, 0, 0, 0, 0, .null, []),
  (157, .getfield 25, 160, 17, 7, 0, 711, .null, []),
  (160, .iload 5, 162, 0, 0, 0, 0, .null, []),
  (162, .iaload, 163, 0, 0, 0, 0, .null, []),
  (163, .if_icmp .ge 16, 166, 179, 0, 0, 0, .null, []),
  (166, .aload_n 0, 167, 0, 0, 0, 0, .null, []),
  (167, .getfield 25, 170, 17, 7, 0, 711, .null, []),
  (170, .iload 4, 172, 0, 0, 0, 0, .null, []),
  (172, .iaload, 173, 0, 0, 0, 0, .null, []),
  (173, .iload 6, 175, 0, 0, 0, 0, .null, []),
  (175, .iadd, 176, 0, 0, 0, 0, .null, []),
  (176, .goto 10, 179, 186, 0, 0, 0, .null, [])]
def cd110_2 : List En := [(179, .aload_n 0, 180, 0, 0, 0, 0, .null, []),
  (180, .getfield 25, 183, 17, 7, 0, 711, .null, []),
  (183, .iload 5, 185, 0, 0, 0, 0, .null, []),
  (185, .iaload, 186, 0, 0, 0, 0, .null, []),
  (186, .iastore, 187, 0, 0, 0, 0, .null, []),
  (187, .iinc 3 1, 190, 0, 0, 0, 0, .null, []),
  (190, .goto (-145), 193, 45, 0, 0, 0, .null, []),
  (193, .iinc 2 1, 196, 0, 0, 0, 0, .null, []),
  (196, .goto (-163), 199, 33, 0, 0, 0, .null, []),
  (199, .aload_n 0, 200, 0, 0, 0, 0, .null, []),
  (200, .getfield 25, 203, 17, 7, 0, 711, .null, []),
  (203, .iload_n 1, 204, 0, 0, 0, 0, .null, []),
  (204, .iaload, 205, 0, 0, 0, 0, .null, []),
  (205, .sipush 1000, 208, 0, 0, 0, 0, .int (nI 1000), []),
  (208, .if_icmp .ge 12, 211, 220, 0, 0, 0, .null, []),
  (211, .aload_n 0, 212, 0, 0, 0, 0, .null, []),
  (212, .getfield 25, 215, 17, 7, 0, 711, .null, []),
  (215, .iload_n 1, 216, 0, 0, 0, 0, .null, []),
  (216, .iaload, 217, 0, 0, 0, 0, .null, []),
  (217, .goto 5, 220, 222, 0, 0, 0, .null, []),
  (220, .ldc 40, 222, 0, 0, 0, 793, .int ((-1000000004)), []),
  (222, .ireturn, 223, 0, 0, 0, 0, .int 0, [])]
def cd110 : List En := cd110_0 ++ (cd110_1 ++ (cd110_2))
def cd111 : List En := [(0, .aload_n 0, 1, 0, 0, 0, 0, .null, []),
  (1, .iconst 0, 2, 0, 0, 0, 0, .int (nI 0), []),
  (2, .putfield 68, 5, 17, 8, 0, 712, .int 0, []),
  (5, .aload_n 0, 6, 0, 0, 0, 0, .null, []),
  (6, .iconst 0, 7, 0, 0, 0, 0, .int (nI 0), []),
  (7, .putfield 71, 10, 17, 9, 0, 713, .int 0, []),
  (10, .aload_n 0, 11, 0, 0, 0, 0, .null, []),
  (11, .iconst 0, 12, 0, 0, 0, 0, .int (nI 0), []),
  (12, .putfield 74, 15, 17, 10, 0, 714, .int 0, []),
  (15, .aload_n 0, 16, 0, 0, 0, 0, .null, []),
  (16, .iconst 0, 17, 0, 0, 0, 0, .int (nI 0), []),
  (17, .putfield 77, 20, 17, 11, 0, 715, .int 0, []),
  (20, .aload_n 0, 21, 0, 0, 0, 0, .null, []),
  (21, .iconst 1, 22, 0, 0, 0, 0, .int (nI 1), []),
  (22, .putfield 80, 25, 17, 12, 0, 716, .int 0, []),
  (25, .aload_n 0, 26, 0, 0, 0, 0, .null, []),
  (26, .iconst 0, 27, 0, 0, 0, 0, .int (nI 0), []),
  (27, .putfield 83, 30, 17, 13, 0, 717, .int 0, []),
  (30, .aload_n 0, 31, 0, 0, 0, 0, .null, []),
  (31, .getfield 28, 34, 17, 14, 0, 718, .null, []),
  (34, .iconst 0, 35, 0, 0, 0, 0, .int (nI 0), []),
  (35, .iconst 0, 36, 0, 0, 0, 0, .int (nI 0), []),
  (36, .iastore, 37, 0, 0, 0, 0, .null, []),
  (37, .return_, 38, 0, 0, 0, 0, .null, [])]
def cd112 : List En := [(0, .aload_n 0, 1, 0, 0, 0, 0, .null, []),
  (1, .iload_n 1, 2, 0, 0, 0, 0, .null, []),
  (2, .aload_n 0, 3, 0, 0, 0, 0, .null, []),
  (3, .getfield 68, 6, 17, 8, 0, 712, .int 0, []),
  (6, .invokevirtual 65, 9, 105, 0, 17, 879, .retAddr 3, []),
  (9, .istore_n 2, 10, 0, 0, 0, 0, .null, []),
  (10, .aload_n 0, 11, 0, 0, 0, 0, .null, []),
  (11, .iload_n 1, 12, 0, 0, 0, 0, .null, []),
  (12, .invokevirtual 62, 15, 104, 0, 17, 835, .retAddr 2, []),
  (15, .ifCond .eq 23, 18, 38, 0, 0, 0, .null, []),
  (18, .iload_n 2, 19, 0, 0, 0, 0, .null, []),
  (19, .iconst (-1), 20, 0, 0, 0, 0, .int ((-1)), []),
  (20, .if_icmp .eq 18, 23, 38, 0, 0, 0, .null, []),
  (23, .aload_n 0, 24, 0, 0, 0, 0, .null, []),
  (24, .getfield 80, 27, 17, 12, 0, 716, .int 0, []),
  (27, .iload_n 2, 28, 0, 0, 0, 0, .null, []),
  (28, .ishr, 29, 0, 0, 0, 0, .null, []),
  (29, .iconst 1, 30, 0, 0, 0, 0, .int (nI 1), []),
  (30, .iand, 31, 0, 0, 0, 0, .null, []),
  (31, .ifCond .ne 7, 34, 38, 0, 0, 0, .null, []),
  (34, .iconst 1, 35, 0, 0, 0, 0, .int (nI 1), []),
  (35, .goto 4, 38, 39, 0, 0, 0, .null, []),
  (38, .iconst 0, 39, 0, 0, 0, 0, .int (nI 0), []),
  (39, .ireturn, 40, 0, 0, 0, 0, .int 1, [])]
def cd113 : List En := [(0, .aload_n 0, 1, 0, 0, 0, 0, .null, []),
  (1, .aload_n 0, 2, 0, 0, 0, 0, .null, []),
  (2, .iload_n 1, 3, 0, 0, 0, 0, .null, []),
  (3, .aload_n 0, 4, 0, 0, 0, 0, .null, []),
  (4, .getfield 68, 7, 17, 8, 0, 712, .int 0, []),
  (7, .invokevirtual 65, 10, 105, 0, 17, 879, .retAddr 3, []),
  (10, .putfield 68, 13, 17, 8, 0, 712, .int 0, []),
  (13, .aload_n 0, 14, 0, 0, 0, 0, .null, []),
  (14, .dup, 15, 0, 0, 0, 0, .null, []),
  (15, .getfield 80, 18, 17, 12, 0, 716, .int 0, []),
  (18, .iconst 1, 19, 0, 0, 0, 0, .int (nI 1), []),
  (19, .aload_n 0, 20, 0, 0, 0, 0, .null, []),
  (20, .getfield 68, 23, 17, 8, 0, 712, .int 0, []),
  (23, .ishl, 24, 0, 0, 0, 0, .null, []),
  (24, .ior, 25, 0, 0, 0, 0, .null, []),
  (25, .putfield 80, 28, 17, 12, 0, 716, .int 0, []),
  (28, .aload_n 0, 29, 0, 0, 0, 0, .null, []),
  (29, .dup, 30, 0, 0, 0, 0, .null, []),
  (30, .getfield 77, 33, 17, 11, 0, 715, .int 0, []),
  (33, .iconst 1, 34, 0, 0, 0, 0, .int (nI 1), []),
  (34, .iload_n 1, 35, 0, 0, 0, 0, .null, []),
  (35, .ishl, 36, 0, 0, 0, 0, .null, []),
  (36, .ior, 37, 0, 0, 0, 0, .null, []),
  (37, .putfield 77, 40, 17, 11, 0, 715, .int 0, []),
  (40, .aload_n 0, 41, 0, 0, 0, 0, .null, []),
  (41, .dup, 42, 0, 0, 0, 0, .null, []),
  (42, .getfield 71, 45, 17, 9, 0, 713, .int 0, []),
  (45, .aload_n 0, 46, 0, 0, 0, 0, .null, []),
  (46, .iload_n 1, 47, 0, 0, 0, 0, .null, []),
  (47, .iconst 2, 48, 0, 0, 0, 0, .int (nI 2), []),
  (48, .invokevirtual 58, 51, 102, 0, 17, 826, .retAddr 3, []),
  (51, .iadd, 52, 0, 0, 0, 0, .null, []),
  (52, .putfield 71, 55, 17, 9, 0, 713, .int 0, []),
  (55, .aload_n 0, 56, 0, 0, 0, 0, .null, []),
  (56, .dup, 57, 0, 0, 0, 0, .null, []),
  (57, .getfield 74, 60, 17, 10, 0, 714, .int 0, []),
  (60, .iconst 1, 61, 0, 0, 0, 0, .int (nI 1), []),
  (61, .iadd, 62, 0, 0, 0, 0, .null, []),
  (62, .putfield 74, 65, 17, 10, 0, 714, .int 0, []),
  (65, .aload_n 0, 66, 0, 0, 0, 0, .null, []),
  (66, .getfield 28, 69, 17, 14, 0, 718, .null, []),
  (69, .aload_n 0, 70, 0, 0, 0, 0, .null, []),
  (70, .getfield 74, 73, 17, 10, 0, 714, .int 0, []),
  (73, .aload_n 0, 74, 0, 0, 0, 0, .null, []),
  (74, .getfield 68, 77, 17, 8, 0, 712, .int 0, []),
  (77, .iastore, 78, 0, 0, 0, 0, .null, []),
  (78, .return_, 79, 0, 0, 0, 0, .null, [])]
def cd114_0 : List En := [(0, .iconst 0, 1, 0, 0, 0, 0, .int (nI 0), []),
  (1, .istore_n 1, 2, 0, 0, 0, 0, .null, []),
  (2, .iconst 0, 3, 0, 0, 0, 0, .int (nI 0), []),
  (3, .istore_n 2, 4, 0, 0, 0, 0, .null, []),
  (4, .iload_n 2, 5, 0, 0, 0, 0, .null, []),
  (5, .aload_n 0, 6, 0, 0, 0, 0, .null, []),
  (6, .getfield 7, 9, 17, 0, 0, 704, .null, []),
  (9, .iconst 1, 10, 0, 0, 0, 0, .int (nI 1), []),
  (10, .iaload, 11, 0, 0, 0, 0, .null, []),
  (11, .if_icmp .ge 29, 14, 40, 0, 0, 0, .null, []),
  (14, .iload_n 1, 15, 0, 0, 0, 0, .null, []),
  (15, .aload_n 0, 16, 0, 0, 0, 0, .null, []),
  (16, .iload_n 2, 17, 0, 0, 0, 0, .null, []),
  (17, .invokevirtual 86, 20, 112, 1, 17, 875, .retAddr 2, []),
  (20, .ifCond .eq 11, 23, 31, 0, 0, 0, .null, []),
  (23, .aload_n 0, 24, 0, 0, 0, 0, .null, []),
  (24, .iload_n 2, 25, 0, 0, 0, 0, .null, []),
  (25, .invokevirtual 89, 28, 106, 0, 17, 883, .retAddr 2, []),
  (28, .goto 4, 31, 32, 0, 0, 0, .null, []),
  (31, .iconst 0, 32, 0, 0, 0, 0, .int (nI 0), []),
  (32, .iadd, 33, 0, 0, 0, 0, .null, []),
  (33, .istore_n 1, 34, 0, 0, 0, 0, .null, []),
  (34, .iinc 2 1, 37, 0, 0, 0, 0, .null, []),
  (37, .goto (-33), 40, 4, 0, 0, 0, .null, []),
  (40, .iload_n 1, 41, 0, 0, 0, 0, .null, []),
  (41, .ifCond .ne 5, 44, 46, 0, 0, 0, .null, []),
  (44, .iconst (-1), 45, 0, 0, 0, 0, .int ((-1)), []),
  (45, .ireturn, 46, 0, 0, 0, 0, .int 0, []),
  (46, .aload_n 0, 47, 0, 0, 0, 0, .null, []),
  (47, .getfield 7, 50, 17, 0, 0, 704, .null, []),
  (50, .bipush 8, 52, 0, 0, 0, 0, .int (nI 8), []),
  (52, .iaload, 53, 0, 0, 0, 0, .null, []),
  (53, .i2l, 54, 0, 0, 0, 0, .null, []),
  (54, .ldc2_w 93, 57, 0, 0, 0, 887, .long 16807, []),
  (57, .lmul, 58, 0, 0, 0, 0, .null, []),
  (58, .ldc2_w 95, 61, 0, 0, 0, 888, .long 2147483647, []),
  (61, .lrem, 62, 0, 0, 0, 0, .null, []),
  (62, .lstore_n 2, 63, 0, 0, 0, 0, .null, []),
  (63, .aload_n 0, 64, 0, 0, 0, 0, .null, []),
  (64, .getfield 7, 67, 17, 0, 0, 704, .null, []),
  (67, .bipush 8, 69, 0, 0, 0, 0, .int (nI 8), []),
  (69, .lload_n 2, 70, 0, 0, 0, 0, .null, []),
  (70, .l2i, 71, 0, 0, 0, 0, .null, []),
  (71, .iastore, 72, 0, 0, 0, 0, .null, []),
  (72, .aload_n 0, 73, 0, 0, 0, 0, .null, []),
  (73, .getfield 7, 76, 17, 0, 0, 704, .null, []),
  (76, .bipush 8, 78, 0, 0, 0, 0, .int (nI 8), []),
  (78, .iaload, 79, 0, 0, 0, 0, .null, []),
  (79, .iload_n 1, 80, 0, 0, 0, 0, .null, []),
  (80, .irem, 81, 0, 0, 0, 0, .null, [])]
def cd114_1 : List En := [(81, .istore 4, 83, 0, 0, 0, 0, .null, []),
  (83, .iconst (-1), 84, 0, 0, 0, 0, .int ((-1)), []),
  (84, .istore 5, 86, 0, 0, 0, 0, .null, []),
  (86, .iconst 0, 87, 0, 0, 0, 0, .int (nI 0), []),
  (87, .istore 6, 89, 0, 0, 0, 0, .null, []),
  (89, .iload 6, 91, 0, 0, 0, 0, .null, []),
  (91, .aload_n 0, 92, 0, 0, 0, 0, .null, []),
  (92, .getfield 7, 95, 17, 0, 0, 704, .null, []),
  (95, .iconst 1, 96, 0, 0, 0, 0, .int (nI 1), []),
  (96, .iaload, 97, 0, 0, 0, 0, .null, []),
  (97, .if_icmp .ge 58, 100, 155, 0, 0, 0, .null, []),
  (100, .iload 5, 102, 0, 0, 0, 0, .null, []),
  (102, .iconst (-1), 103, 0, 0, 0, 0, .int ((-1)), []),
  (103, .if_icmp .ne 52, 106, 155, 0, 0, 0, .null, []),
  (106, .aload_n 0, 107, 0, 0, 0, 0, .null, []),
  (107, .iload 6, 109, 0, 0, 0, 0, .null, []),
  (109, .invokevirtual 86, 112, 112, 1, 17, 875, .retAddr 2, []),
  (112, .ifCond .eq 12, 115, 124, 0, 0, 0, .null, []),
  (115, .aload_n 0, 116, 0, 0, 0, 0, .null, []),
  (116, .iload 6, 118, 0, 0, 0, 0, .null, []),
  (118, .invokevirtual 89, 121, 106, 0, 17, 883, .retAddr 2, []),
  (121, .goto 4, 124, 125, 0, 0, 0, .null, []),
  (124, .iconst 0, 125, 0, 0, 0, 0, .int (nI 0), []),
  (125, .istore 7, 127, 0, 0, 0, 0, .null, []),
  (127, .iload 4, 129, 0, 0, 0, 0, .null, []),
  (129, .iload 7, 131, 0, 0, 0, 0, .null, []),
  (131, .if_icmp .ge 8, 134, 139, 0, 0, 0, .null, []),
  (134, .iload 6, 136, 0, 0, 0, 0, .null, []),
  (136, .goto 4, 139, 140, 0, 0, 0, .null, []),
  (139, .iconst (-1), 140, 0, 0, 0, 0, .int ((-1)), []),
  (140, .istore 5, 142, 0, 0, 0, 0, .null, []),
  (142, .iload 4, 144, 0, 0, 0, 0, .null, []),
  (144, .iload 7, 146, 0, 0, 0, 0, .null, []),
  (146, .isub, 147, 0, 0, 0, 0, .null, []),
  (147, .istore 4, 149, 0, 0, 0, 0, .null, []),
  (149, .iinc 6 1, 152, 0, 0, 0, 0, .null, []),
  (152, .goto (-63), 155, 89, 0, 0, 0, .null, []),
  (155, .iload 5, 157, 0, 0, 0, 0, .null, []),
  (157, .ireturn, 158, 0, 0, 0, 0, .int 0, [])]
def cd114 : List En := cd114_0 ++ (cd114_1)
def cd115_0 : List En := [(0, .aload_n 0, 1, 0, 0, 0, 0, .null, []),
  (1, .invokevirtual 97, 4, 111, 0, 17, 867, .retAddr 1, []),
  (4, .aload_n 0, 5, 0, 0, 0, 0, .null, []),
  (5, .getfield 68, 8, 17, 8, 0, 712, .int 0, []),
  (8, .aload_n 0, 9, 0, 0, 0, 0, .null, []),
  (9, .getfield 7, 12, 17, 0, 0, 704, .null, []),
  (12, .bipush 7, 14, 0, 0, 0, 0, .int (nI 7), []),
  (14, .iaload, 15, 0, 0, 0, 0, .null, []),
  (15, .if_icmp .eq 103, 18, 118, 0, 0, 0, .null, []),
  (18, .aload_n 0, 19, 0, 0, 0, 0, .null, []),
  (19, .getfield 83, 22, 17, 13, 0, 717, .int 0, []),
  (22, .ifCond .ne 96, 25, 118, 0, 0, 0, .null, []),
  (25, .aload_n 0, 26, 0, 0, 0, 0, .null, []),
  (26, .invokevirtual 100, 29, 114, 7, 17, 871, .retAddr 1, []),
  (29, .istore_n 1, 30, 0, 0, 0, 0, .null, []),
  (30, .aload_n 0, 31, 0, 0, 0, 0, .null, []),
  (31, .iload_n 1, 32, 0, 0, 0, 0, .null, []),
  (32, .iconst (-1), 33, 0, 0, 0, 0, .int ((-1)), []),
  (33, .if_icmp .ne 7, 36, 40, 0, 0, 0, .null, []),
  (36, .iconst 1, 37, 0, 0, 0, 0, .int (nI 1), []),
  (37, .goto 29, 40, 66, 0, 0, 0, .null, []),
  (40, .aload_n 0, 41, 0, 0, 0, 0, .null, []),
  (41, .getfield 71, 44, 17, 9, 0, 713, .int 0, []),
  (44, .aload_n 0, 45, 0, 0, 0, 0, .null, []),
  (45, .iload_n 1, 46, 0, 0, 0, 0, .null, []),
  (46, .iconst 2, 47, 0, 0, 0, 0, .int (nI 2), []),
  (47, .invokevirtual 58, 50, 102, 0, 17, 826, .retAddr 3, []),
  (50, .iadd, 51, 0, 0, 0, 0, .null, []),
  (51, .aload_n 0, 52, 0, 0, 0, 0, .null, []),
  (52, .getfield 7, 55, 17, 0, 0, 704, .null, []),
  (55, .bipush 19, 57, 0, 0, 0, 0, .int (nI 19), []),
  (57, .iaload, 58, 0, 0, 0, 0, .null, []),
  (58, .if_icmp .le 7, 61, 65, 0, 0, 0, .null, []),
  (61, .iconst 2, 62, 0, 0, 0, 0, .int (nI 2), []),
  (62, .goto 4, 65, 66, 0, 0, 0, .null, []),
  (65, .iconst 0, 66, 0, 0, 0, 0, .int (nI 0), []),
  (66, .putfield 83, 69, 17, 13, 0, 717, .int 0, []),
  (69, .aload_n 0, 70, 0, 0, 0, 0, .null, []),
  (70, .getfield 83, 73, 17, 13, 0, 717, .int 0, []),
  (73, .ifCond .ne 42, 76, 115, 0, 0, 0, .null, []),
  (76, .aload_n 0, 77, 0, 0, 0, 0, .null, []),
  (77, .iload_n 1, 78, 0, 0, 0, 0, .null, []),
  (78, .invokevirtual 104, 81, 113, 0, 17, 889, .retAddr 2, []),
  (81, .aload_n 0, 82, 0, 0, 0, 0, .null, []),
  (82, .iload_n 1, 83, 0, 0, 0, 0, .null, []),
  (83, .iconst 5, 84, 0, 0, 0, 0, .int (nI 5), []),
  (84, .aload_n 0, 85, 0, 0, 0, 0, .null, []),
  (85, .iload_n 1, 86, 0, 0, 0, 0, .null, []),
  (86, .iconst 5, 87, 0, 0, 0, 0, .int (nI 5), []),
  (87, .invokevirtual 58, 90, 102, 0, 17, 826, .retAddr 3, [])]
def cd115_1 : List En := [(90, .iconst 1, 91, 0, 0, 0, 0, .int (nI 1), []),
  (91, .iadd, 92, 0, 0, 0, 0, .null, []),
  (92, .invokevirtual 108, 95, 103, 0, 17, 810, .retAddr 4, []),
  (95, .aload_n 0, 96, 0, 0, 0, 0, .null, []),
  (96, .getfield 7, 99, 17, 0, 0, 704, .null, []),
  (99, .bipush 126, 101, 0, 0, 0, 0, .int (nI 126), []),
  (101, .iconst 2, 102, 0, 0, 0, 0, .int (nI 2), []),
  (102, .aload_n 0, 103, 0, 0, 0, 0, .null, []),
  (103, .getfield 68, 106, 17, 8, 0, 712, .int 0, []),
  (106, .imul, 107, 0, 0, 0, 0, .null, []),
  (107, .iadd, 108, 0, 0, 0, 0, .null, []),
  (108, .iconst 0, 109, 0, 0, 0, 0, .int (nI 0), []),
  (109, .iadd, 110, 0, 0, 0, 0, .null, []),
  (110, .dup2, 111, 0, 0, 0, 0, .null, []),
  (111, .iaload, 112, 0, 0, 0, 0, .null, []),
  (112, .iconst 1, 113, 0, 0, 0, 0, .int (nI 1), []),
  (113, .iadd, 114, 0, 0, 0, 0, .null, []),
  (114, .iastore, 115, 0, 0, 0, 0, .null, []),
  (115, .goto (-111), 118, 4, 0, 0, 0, .null, []),
  (118, .aload_n 0, 119, 0, 0, 0, 0, .null, []),
  (119, .getfield 7, 122, 17, 0, 0, 704, .null, []),
  (122, .bipush 126, 124, 0, 0, 0, 0, .int (nI 126), []),
  (124, .iconst 2, 125, 0, 0, 0, 0, .int (nI 2), []),
  (125, .aload_n 0, 126, 0, 0, 0, 0, .null, []),
  (126, .getfield 68, 129, 17, 8, 0, 712, .int 0, []),
  (129, .imul, 130, 0, 0, 0, 0, .null, []),
  (130, .iadd, 131, 0, 0, 0, 0, .null, []),
  (131, .iconst 1, 132, 0, 0, 0, 0, .int (nI 1), []),
  (132, .iadd, 133, 0, 0, 0, 0, .null, []),
  (133, .dup2, 134, 0, 0, 0, 0, .null, []),
  (134, .iaload, 135, 0, 0, 0, 0, .null, []),
  (135, .aload_n 0, 136, 0, 0, 0, 0, .null, []),
  (136, .getfield 83, 139, 17, 13, 0, 717, .int 0, []),
  (139, .iconst 1, 140, 0, 0, 0, 0, .int (nI 1), []),
  (140, .if_icmp .ne 7, 143, 147, 0, 0, 0, .null, []),
  (143, .iconst 1, 144, 0, 0, 0, 0, .int (nI 1), []),
  (144, .goto 4, 147, 148, 0, 0, 0, .null, []),
  (147, .iconst 0, 148, 0, 0, 0, 0, .int (nI 0), []),
  (148, .iadd, 149, 0, 0, 0, 0, .null, []),
  (149, .iastore, 150, 0, 0, 0, 0, .null, []),
  (150, .aload_n 0, 151, 0, 0, 0, 0, .null, []),
  (151, .getfield 7, 154, 17, 0, 0, 704, .null, []),
  (154, .iconst 3, 155, 0, 0, 0, 0, .int (nI 3), []),
  (155, .dup2, 156, 0, 0, 0, 0, .null, []),
  (156, .iaload, 157, 0, 0, 0, 0, .null, []),
  (157, .iconst 1, 158, 0, 0, 0, 0, .int (nI 1), []),
  (158, .iadd, 159, 0, 0, 0, 0, .null, []),
  (159, .iastore, 160, 0, 0, 0, 0, .null, []),
  (160, .aload_n 0, 161, 0, 0, 0, 0, .null, []),
  (161, .getfield 7, 164, 17, 0, 0, 704, .null, [])]
def cd115_2 : List En := [(164, .iconst 4, 165, 0, 0, 0, 0, .int (nI 4), []),
  (165, .dup2, 166, 0, 0, 0, 0, .null, []),
  (166, .iaload, 167, 0, 0, 0, 0, .null, []),
  (167, .aload_n 0, 168, 0, 0, 0, 0, .null, []),
  (168, .getfield 83, 171, 17, 13, 0, 717, .int 0, []),
  (171, .ifCond .ne 7, 174, 178, 0, 0, 0, .null, []),
  (174, .iconst 1, 175, 0, 0, 0, 0, .int (nI 1), []),
  (175, .goto 4, 178, 179, 0, 0, 0, .null, []),
  (178, .iconst 0, 179, 0, 0, 0, 0, .int (nI 0), []),
  (179, .iadd, 180, 0, 0, 0, 0, .null, []),
  (180, .iastore, 181, 0, 0, 0, 0, .null, []),
  (181, .aload_n 0, 182, 0, 0, 0, 0, .null, []),
  (182, .getfield 7, 185, 17, 0, 0, 704, .null, []),
  (185, .iconst 5, 186, 0, 0, 0, 0, .int (nI 5), []),
  (186, .dup2, 187, 0, 0, 0, 0, .null, []),
  (187, .iaload, 188, 0, 0, 0, 0, .null, []),
  (188, .aload_n 0, 189, 0, 0, 0, 0, .null, []),
  (189, .getfield 83, 192, 17, 13, 0, 717, .int 0, []),
  (192, .iconst 1, 193, 0, 0, 0, 0, .int (nI 1), []),
  (193, .if_icmp .ne 7, 196, 200, 0, 0, 0, .null, []),
  (196, .iconst 1, 197, 0, 0, 0, 0, .int (nI 1), []),
  (197, .goto 4, 200, 201, 0, 0, 0, .null, []),
  (200, .iconst 0, 201, 0, 0, 0, 0, .int (nI 0), []),
  (201, .iadd, 202, 0, 0, 0, 0, .null, []),
  (202, .iastore, 203, 0, 0, 0, 0, .null, []),
  (203, .aload_n 0, 204, 0, 0, 0, 0, .null, []),
  (204, .getfield 7, 207, 17, 0, 0, 704, .null, []),
  (207, .bipush 6, 209, 0, 0, 0, 0, .int (nI 6), []),
  (209, .dup2, 210, 0, 0, 0, 0, .null, []),
  (210, .iaload, 211, 0, 0, 0, 0, .null, []),
  (211, .aload_n 0, 212, 0, 0, 0, 0, .null, []),
  (212, .getfield 83, 215, 17, 13, 0, 717, .int 0, []),
  (215, .iconst 2, 216, 0, 0, 0, 0, .int (nI 2), []),
  (216, .if_icmp .ne 7, 219, 223, 0, 0, 0, .null, []),
  (219, .iconst 1, 220, 0, 0, 0, 0, .int (nI 1), []),
  (220, .goto 4, 223, 224, 0, 0, 0, .null, []),
  (223, .iconst 0, 224, 0, 0, 0, 0, .int (nI 0), []),
  (224, .iadd, 225, 0, 0, 0, 0, .null, []),
  (225, .iastore, 226, 0, 0, 0, 0, .null, []),
  (226, .return_, 227, 0, 0, 0, 0, .null, [])]
def cd115 : List En := cd115_0 ++ (cd115_1 ++ (cd115_2))
def cd116 : List En := [(0, .iconst 0, 1, 0, 0, 0, 0, .int (nI 0), []),
  (1, .istore_n 3, 2, 0, 0, 0, 0, .null, []),
  (2, .iload_n 3, 3, 0, 0, 0, 0, .null, []),
  (3, .aload_n 0, 4, 0, 0, 0, 0, .null, []),
  (4, .getfield 7, 7, 17, 0, 0, 704, .null, []),
  (7, .iconst 1, 8, 0, 0, 0, 0, .int (nI 1), []),
  (8, .iaload, 9, 0, 0, 0, 0, .null, []),
  (9, .if_icmp .ge 36, 12, 45, 0, 0, 0, .null, []),
  (12, .aload_n 0, 13, 0, 0, 0, 0, .null, []),
  (13, .iload_n 3, 14, 0, 0, 0, 0, .null, []),
  (14, .iconst 3, 15, 0, 0, 0, 0, .int (nI 3), []),
  (15, .aload_n 0, 16, 0, 0, 0, 0, .null, []),
  (16, .iload_n 3, 17, 0, 0, 0, 0, .null, []),
  (17, .iconst 3, 18, 0, 0, 0, 0, .int (nI 3), []),
  (18, .invokevirtual 58, 21, 102, 0, 17, 826, .retAddr 3, []),
  (21, .iload_n 1, 22, 0, 0, 0, 0, .null, []),
  (22, .iload_n 3, 23, 0, 0, 0, 0, .null, []),
  (23, .ishr, 24, 0, 0, 0, 0, .null, []),
  (24, .iconst 1, 25, 0, 0, 0, 0, .int (nI 1), []),
  (25, .iand, 26, 0, 0, 0, 0, .null, []),
  (26, .iconst 1, 27, 0, 0, 0, 0, .int (nI 1), []),
  (27, .if_icmp .ne 7, 30, 34, 0, 0, 0, .null, []),
  (30, .iload_n 2, 31, 0, 0, 0, 0, .null, []),
  (31, .goto 4, 34, 35, 0, 0, 0, .null, []),
  (34, .iconst 0, 35, 0, 0, 0, 0, .int (nI 0), []),
  (35, .iadd, 36, 0, 0, 0, 0, .null, []),
  (36, .invokevirtual 108, 39, 103, 0, 17, 810, .retAddr 4, []),
  (39, .iinc 3 1, 42, 0, 0, 0, 0, .null, []),
  (42, .goto (-40), 45, 2, 0, 0, 0, .null, []),
  (45, .return_, 46, 0, 0, 0, 0, .null, [])]
def cd117 : List En := [(0, .aload_n 0, 1, 0, 0, 0, 0, .null, []),
  (1, .getfield 7, 4, 17, 0, 0, 704, .null, []),
  (4, .bipush 9, 6, 0, 0, 0, 0, .int (nI 9), []),
  (6, .aload_n 0, 7, 0, 0, 0, 0, .null, []),
  (7, .getfield 71, 10, 17, 9, 0, 713, .int 0, []),
  (10, .iastore, 11, 0, 0, 0, 0, .null, []),
  (11, .aload_n 0, 12, 0, 0, 0, 0, .null, []),
  (12, .getfield 7, 15, 17, 0, 0, 704, .null, []),
  (15, .bipush 10, 17, 0, 0, 0, 0, .int (nI 10), []),
  (17, .aload_n 0, 18, 0, 0, 0, 0, .null, []),
  (18, .getfield 74, 21, 17, 10, 0, 714, .int 0, []),
  (21, .iastore, 22, 0, 0, 0, 0, .null, []),
  (22, .aload_n 0, 23, 0, 0, 0, 0, .null, []),
  (23, .getfield 7, 26, 17, 0, 0, 704, .null, []),
  (26, .bipush 11, 28, 0, 0, 0, 0, .int (nI 11), []),
  (28, .aload_n 0, 29, 0, 0, 0, 0, .null, []),
  (29, .getfield 7, 32, 17, 0, 0, 704, .null, []),
  (32, .iconst 2, 33, 0, 0, 0, 0, .int (nI 2), []),
  (33, .iaload, 34, 0, 0, 0, 0, .null, []),
  (34, .iastore, 35, 0, 0, 0, 0, .null, []),
  (35, .aload_n 0, 36, 0, 0, 0, 0, .null, []),
  (36, .getfield 7, 39, 17, 0, 0, 704, .null, []),
  (39, .bipush 12, 41, 0, 0, 0, 0, .int (nI 12), []),
  (41, .aload_n 0, 42, 0, 0, 0, 0, .null, []),
  (42, .getfield 77, 45, 17, 11, 0, 715, .int 0, []),
  (45, .iastore, 46, 0, 0, 0, 0, .null, []),
  (46, .iconst 0, 47, 0, 0, 0, 0, .int (nI 0), []),
  (47, .istore_n 1, 48, 0, 0, 0, 0, .null, []),
  (48, .iload_n 1, 49, 0, 0, 0, 0, .null, []),
  (49, .aload_n 0, 50, 0, 0, 0, 0, .null, []),
  (50, .getfield 74, 53, 17, 10, 0, 714, .int 0, []),
  (53, .if_icmp .gt 24, 56, 77, 0, 0, 0, .null, []),
  (56, .aload_n 0, 57, 0, 0, 0, 0, .null, []),
  (57, .getfield 7, 60, 17, 0, 0, 704, .null, []),
  (60, .bipush 20, 62, 0, 0, 0, 0, .int (nI 20), []),
  (62, .iload_n 1, 63, 0, 0, 0, 0, .null, []),
  (63, .iadd, 64, 0, 0, 0, 0, .null, []),
  (64, .aload_n 0, 65, 0, 0, 0, 0, .null, []),
  (65, .getfield 28, 68, 17, 14, 0, 718, .null, []),
  (68, .iload_n 1, 69, 0, 0, 0, 0, .null, []),
  (69, .iaload, 70, 0, 0, 0, 0, .null, []),
  (70, .iastore, 71, 0, 0, 0, 0, .null, []),
  (71, .iinc 1 1, 74, 0, 0, 0, 0, .null, []),
  (74, .goto (-26), 77, 48, 0, 0, 0, .null, []),
  (77, .return_, 78, 0, 0, 0, 0, .null, [])]
def cd118_0 : List En := [(0, .iconst 0, 1, 0, 0, 0, 0, .int (nI 0), []),
  (1, .istore_n 1, 2, 0, 0, 0, 0, .null, []),
  (2, .iconst 0, 3, 0, 0, 0, 0, .int (nI 0), []),
  (3, .istore_n 2, 4, 0, 0, 0, 0, .null, []),
  (4, .iload_n 2, 5, 0, 0, 0, 0, .null, []),
  (5, .aload_n 0, 6, 0, 0, 0, 0, .null, []),
  (6, .getfield 7, 9, 17, 0, 0, 704, .null, []),
  (9, .bipush 13, 11, 0, 0, 0, 0, .int (nI 13), []),
  (11, .iaload, 12, 0, 0, 0, 0, .null, []),
  (12, .if_icmp .ge 71, 15, 83, 0, 0, 0, .null, []),
  (15, .aload_n 0, 16, 0, 0, 0, 0, .null, []),
  (16, .invokevirtual 112, 19, 115, 1, 17, 863, .retAddr 1, []),
  (19, .aload_n 0, 20, 0, 0, 0, 0, .null, []),
  (20, .getfield 83, 23, 17, 13, 0, 717, .int 0, []),
  (23, .ifCond .ne 54, 26, 77, 0, 0, 0, .null, []),
  (26, .aload_n 0, 27, 0, 0, 0, 0, .null, []),
  (27, .getfield 31, 30, 17, 15, 0, 719, .null, []),
  (30, .iload_n 1, 31, 0, 0, 0, 0, .null, []),
  (31, .aload_n 0, 32, 0, 0, 0, 0, .null, []),
  (32, .getfield 77, 35, 17, 11, 0, 715, .int 0, []),
  (35, .iastore, 36, 0, 0, 0, 0, .null, []),
  (36, .aload_n 0, 37, 0, 0, 0, 0, .null, []),
  (37, .getfield 34, 40, 17, 16, 0, 720, .null, []),
  (40, .iload_n 1, 41, 0, 0, 0, 0, .null, []),
  (41, .aload_n 0, 42, 0, 0, 0, 0, .null, []),
  (42, .getfield 71, 45, 17, 9, 0, 713, .int 0, []),
  (45, .iastore, 46, 0, 0, 0, 0, .null, []),
  (46, .iinc 1 1, 49, 0, 0, 0, 0, .null, []),
  (49, .aload_n 0, 50, 0, 0, 0, 0, .null, []),
  (50, .getfield 7, 53, 17, 0, 0, 704, .null, []),
  (53, .bipush 9, 55, 0, 0, 0, 0, .int (nI 9), []),
  (55, .iaload, 56, 0, 0, 0, 0, .null, []),
  (56, .ifCond .eq 17, 59, 73, 0, 0, 0, .null, []),
  (59, .aload_n 0, 60, 0, 0, 0, 0, .null, []),
  (60, .getfield 71, 63, 17, 9, 0, 713, .int 0, []),
  (63, .aload_n 0, 64, 0, 0, 0, 0, .null, []),
  (64, .getfield 7, 67, 17, 0, 0, 704, .null, []),
  (67, .bipush 9, 69, 0, 0, 0, 0, .int (nI 9), []),
  (69, .iaload, 70, 0, 0, 0, 0, .null, []),
  (70, .if_icmp .ge 7, 73, 77, 0, 0, 0, .null, []),
  (73, .aload_n 0, 74, 0, 0, 0, 0, .null, []),
  (74, .invokevirtual 115, 77, 117, 1, 17, 893, .retAddr 1, []),
  (77, .iinc 2 1, 80, 0, 0, 0, 0, .null, []),
  (80, .goto (-76), 83, 4, 0, 0, 0, .null, []),
  (83, .iconst 0, 84, 0, 0, 0, 0, .int (nI 0), []),
  (84, .istore_n 2, 85, 0, 0, 0, 0, .null, []),
  (85, .iload_n 2, 86, 0, 0, 0, 0, .null, []),
  (86, .aload_n 0, 87, 0, 0, 0, 0, .null, []),
  (87, .getfield 7, 90, 17, 0, 0, 704, .null, []),
  (90, .iconst 1, 91, 0, 0, 0, 0, .int (nI 1), [])]
def cd118_1 : List En := [(91, .iaload, 92, 0, 0, 0, 0, .null, []),
  (92, .if_icmp .ge 39, 95, 131, 0, 0, 0, .null, []),
  (95, .aload_n 0, 96, 0, 0, 0, 0, .null, []),
  (96, .iload_n 2, 97, 0, 0, 0, 0, .null, []),
  (97, .iconst 3, 98, 0, 0, 0, 0, .int (nI 3), []),
  (98, .aload_n 0, 99, 0, 0, 0, 0, .null, []),
  (99, .iload_n 2, 100, 0, 0, 0, 0, .null, []),
  (100, .iconst 3, 101, 0, 0, 0, 0, .int (nI 3), []),
  (101, .invokevirtual 58, 104, 102, 0, 17, 826, .retAddr 3, []),
  (104, .aload_n 0, 105, 0, 0, 0, 0, .null, []),
  (105, .iload_n 2, 106, 0, 0, 0, 0, .null, []),
  (106, .iconst 3, 107, 0, 0, 0, 0, .int (nI 3), []),
  (107, .invokevirtual 58, 110, 102, 0, 17, 826, .retAddr 3, []),
  (110, .aload_n 0, 111, 0, 0, 0, 0, .null, []),
  (111, .getfield 7, 114, 17, 0, 0, 704, .null, []),
  (114, .bipush 14, 116, 0, 0, 0, 0, .int (nI 14), []),
  (116, .iaload, 117, 0, 0, 0, 0, .null, []),
  (117, .imul, 118, 0, 0, 0, 0, .null, []),
  (118, .bipush 100, 120, 0, 0, 0, 0, .int (nI 100), []),
  (120, .idiv, 121, 0, 0, 0, 0, .null, []),
  (121, .isub, 122, 0, 0, 0, 0, .null, []),
  (122, .invokevirtual 108, 125, 103, 0, 17, 810, .retAddr 4, []),
  (125, .iinc 2 1, 128, 0, 0, 0, 0, .null, []),
  (128, .goto (-43), 131, 85, 0, 0, 0, .null, []),
  (131, .iconst 0, 132, 0, 0, 0, 0, .int (nI 0), []),
  (132, .istore_n 2, 133, 0, 0, 0, 0, .null, []),
  (133, .iload_n 2, 134, 0, 0, 0, 0, .null, []),
  (134, .iload_n 1, 135, 0, 0, 0, 0, .null, []),
  (135, .if_icmp .ge 33, 138, 168, 0, 0, 0, .null, []),
  (138, .aload_n 0, 139, 0, 0, 0, 0, .null, []),
  (139, .aload_n 0, 140, 0, 0, 0, 0, .null, []),
  (140, .getfield 31, 143, 17, 15, 0, 719, .null, []),
  (143, .iload_n 2, 144, 0, 0, 0, 0, .null, []),
  (144, .iaload, 145, 0, 0, 0, 0, .null, []),
  (145, .aload_n 0, 146, 0, 0, 0, 0, .null, []),
  (146, .getfield 7, 149, 17, 0, 0, 704, .null, []),
  (149, .bipush 15, 151, 0, 0, 0, 0, .int (nI 15), []),
  (151, .iaload, 152, 0, 0, 0, 0, .null, []),
  (152, .aload_n 0, 153, 0, 0, 0, 0, .null, []),
  (153, .getfield 34, 156, 17, 16, 0, 720, .null, []),
  (156, .iload_n 2, 157, 0, 0, 0, 0, .null, []),
  (157, .iaload, 158, 0, 0, 0, 0, .null, []),
  (158, .idiv, 159, 0, 0, 0, 0, .null, []),
  (159, .invokevirtual 118, 162, 116, 1, 17, 897, .retAddr 3, []),
  (162, .iinc 2 1, 165, 0, 0, 0, 0, .null, []),
  (165, .goto (-32), 168, 133, 0, 0, 0, .null, []),
  (168, .aload_n 0, 169, 0, 0, 0, 0, .null, []),
  (169, .getfield 7, 172, 17, 0, 0, 704, .null, []),
  (172, .bipush 9, 174, 0, 0, 0, 0, .int (nI 9), []),
  (174, .iaload, 175, 0, 0, 0, 0, .null, [])]
def cd118_2 : List En := [(175, .ifCond .le 37, 178, 212, 0, 0, 0, .null, []),
  (178, .aload_n 0, 179, 0, 0, 0, 0, .null, []),
  (179, .aload_n 0, 180, 0, 0, 0, 0, .null, []),
  (180, .getfield 7, 183, 17, 0, 0, 704, .null, []),
  (183, .bipush 12, 185, 0, 0, 0, 0, .int (nI 12), []),
  (185, .iaload, 186, 0, 0, 0, 0, .null, []),
  (186, .aload_n 0, 187, 0, 0, 0, 0, .null, []),
  (187, .getfield 7, 190, 17, 0, 0, 704, .null, []),
  (190, .bipush 16, 192, 0, 0, 0, 0, .int (nI 16), []),
  (192, .iaload, 193, 0, 0, 0, 0, .null, []),
  (193, .aload_n 0, 194, 0, 0, 0, 0, .null, []),
  (194, .getfield 7, 197, 17, 0, 0, 704, .null, []),
  (197, .bipush 15, 199, 0, 0, 0, 0, .int (nI 15), []),
  (199, .iaload, 200, 0, 0, 0, 0, .null, []),
  (200, .aload_n 0, 201, 0, 0, 0, 0, .null, []),
  (201, .getfield 7, 204, 17, 0, 0, 704, .null, []),
  (204, .bipush 9, 206, 0, 0, 0, 0, .int (nI 9), []),
  (206, .iaload, 207, 0, 0, 0, 0, .null, []),
  (207, .idiv, 208, 0, 0, 0, 0, .null, []),
  (208, .imul, 209, 0, 0, 0, 0, .null, []),
  (209, .invokevirtual 118, 212, 116, 1, 17, 897, .retAddr 3, []),
  (212, .iconst 0, 213, 0, 0, 0, 0, .int (nI 0), []),
  (213, .istore_n 2, 214, 0, 0, 0, 0, .null, []),
  (214, .iload_n 2, 215, 0, 0, 0, 0, .null, []),
  (215, .aload_n 0, 216, 0, 0, 0, 0, .null, []),
  (216, .getfield 7, 219, 17, 0, 0, 704, .null, []),
  (219, .iconst 1, 220, 0, 0, 0, 0, .int (nI 1), []),
  (220, .iaload, 221, 0, 0, 0, 0, .null, []),
  (221, .if_icmp .ge 65, 224, 286, 0, 0, 0, .null, []),
  (224, .aload_n 0, 225, 0, 0, 0, 0, .null, []),
  (225, .iload_n 2, 226, 0, 0, 0, 0, .null, []),
  (226, .iconst 3, 227, 0, 0, 0, 0, .int (nI 3), []),
  (227, .invokevirtual 58, 230, 102, 0, 17, 826, .retAddr 3, []),
  (230, .istore_n 3, 231, 0, 0, 0, 0, .null, []),
  (231, .aload_n 0, 232, 0, 0, 0, 0, .null, []),
  (232, .iload_n 2, 233, 0, 0, 0, 0, .null, []),
  (233, .iconst 3, 234, 0, 0, 0, 0, .int (nI 3), []),
  (234, .iload_n 3, 235, 0, 0, 0, 0, .null, []),
  (235, .aload_n 0, 236, 0, 0, 0, 0, .null, []),
  (236, .getfield 7, 239, 17, 0, 0, 704, .null, []),
  (239, .bipush 17, 241, 0, 0, 0, 0, .int (nI 17), []),
  (241, .iaload, 242, 0, 0, 0, 0, .null, []),
  (242, .if_icmp .ge 13, 245, 255, 0, 0, 0, .null, []),
  (245, .aload_n 0, 246, 0, 0, 0, 0, .null, []),
  (246, .getfield 7, 249, 17, 0, 0, 704, .null, []),
  (249, .bipush 17, 251, 0, 0, 0, 0, .int (nI 17), []),
  (251, .iaload, 252, 0, 0, 0, 0, .null, []),
  (252, .goto 25, 255, 277, 0, 0, 0, .null, []),
  (255, .iload_n 3, 256, 0, 0, 0, 0, .null, []),
  (256, .aload_n 0, 257, 0, 0, 0, 0, .null, [])]
def cd118_3 : List En := [(257, .getfield 7, 260, 17, 0, 0, 704, .null, []),
  (260, .bipush 18, 262, 0, 0, 0, 0, .int (nI 18), []),
  (262, .iaload, 263, 0, 0, 0, 0, .null, []),
  (263, .if_icmp .le 13, 266, 276, 0, 0, 0, .null, []),
  (266, .aload_n 0, 267, 0, 0, 0, 0, .null, []),
  (267, .getfield 7, 270, 17, 0, 0, 704, .null, []),
  (270, .bipush 18, 272, 0, 0, 0, 0, .int (nI 18), []),
  (272, .iaload, 273, 0, 0, 0, 0, .null, []),
  (273, .goto 4, 276, 277, 0, 0, 0, .null, []),
  (276, .iload_n 3, 277, 0, 0, 0, 0, .null, []),
  (277, .invokevirtual 108, 280, 103, 0, 17, 810, .retAddr 4, []),
  (280, .iinc 2 1, 283, 0, 0, 0, 0, .null, []),
  (283, .goto (-69), 286, 214, 0, 0, 0, .null, []),
  (286, .aload_n 0, 287, 0, 0, 0, 0, .null, []),
  (287, .getfield 7, 290, 17, 0, 0, 704, .null, []),
  (290, .iconst 2, 291, 0, 0, 0, 0, .int (nI 2), []),
  (291, .dup2, 292, 0, 0, 0, 0, .null, []),
  (292, .iaload, 293, 0, 0, 0, 0, .null, []),
  (293, .iconst 1, 294, 0, 0, 0, 0, .int (nI 1), []),
  (294, .iadd, 295, 0, 0, 0, 0, .null, []),
  (295, .iastore, 296, 0, 0, 0, 0, .null, []),
  (296, .return_, 297, 0, 0, 0, 0, .null, [])]
def cd118 : List En := cd118_0 ++ (cd118_1 ++ (cd118_2 ++ (cd118_3)))
def cd119 : List En := [(0, .iconst 0, 1, 0, 0, 0, 0, .int (nI 0), []),
  (1, .istore_n 2, 2, 0, 0, 0, 0, .null, []),
  (2, .iload_n 2, 3, 0, 0, 0, 0, .null, []),
  (3, .iload_n 1, 4, 0, 0, 0, 0, .null, []),
  (4, .if_icmp .ge 13, 7, 17, 0, 0, 0, .null, []),
  (7, .aload_n 0, 8, 0, 0, 0, 0, .null, []),
  (8, .invokevirtual 122, 11, 118, 3, 17, 859, .retAddr 1, []),
  (11, .iinc 2 1, 14, 0, 0, 0, 0, .null, []),
  (14, .goto (-12), 17, 2, 0, 0, 0, .null, []),
  (17, .return_, 18, 0, 0, 0, 0, .null, [])]
def cd120_0 : List En := [(0, .aload_n 0, 1, 0, 0, 0, 0, .null, []),
  (1, .iload_n 1, 2, 0, 0, 0, 0, .null, []),
  (2, .invokevirtual 125, 5, 100, 0, 17, 806, .retAddr 2, []),
  (5, .ifCond .eq 26, 8, 31, 0, 0, 0, .null, []),
  (8, .aload_n 0, 9, 0, 0, 0, 0, .null, []),
  (9, .iload_n 2, 10, 0, 0, 0, 0, .null, []),
  (10, .invokevirtual 125, 13, 100, 0, 17, 806, .retAddr 2, []),
  (13, .ifCond .eq 18, 16, 31, 0, 0, 0, .null, []),
  (16, .iload_n 1, 17, 0, 0, 0, 0, .null, []),
  (17, .iload_n 2, 18, 0, 0, 0, 0, .null, []),
  (18, .if_icmp .eq 13, 21, 31, 0, 0, 0, .null, []),
  (21, .iload_n 3, 22, 0, 0, 0, 0, .null, []),
  (22, .iconst 1, 23, 0, 0, 0, 0, .int (nI 1), []),
  (23, .bipush 20, 25, 0, 0, 0, 0, .int (nI 20), []),
  (25, .invokestatic 42, 28, 95, 0, 0, 795, .retAddr 3, []),
  (28, .ifCond .ne 6, 31, 34, 0, 0, 0, .null, []),
  (31, .ldc 41, 33, 0, 0, 0, 794, .int ((-1000000001)), []),
  (33, .ireturn, 34, 0, 0, 0, 0, .int 0, []),
  (34, .aload_n 0, 35, 0, 0, 0, 0, .null, []),
  (35, .getfield 7, 38, 17, 0, 0, 704, .null, []),
  (38, .iconst 1, 39, 0, 0, 0, 0, .int (nI 1), []),
  (39, .iaload, 40, 0, 0, 0, 0, .null, []),
  (40, .bipush 16, 42, 0, 0, 0, 0, .int (nI 16), []),
  (42, .if_icmp .ne 6, 45, 48, 0, 0, 0, .null, []),
  (45, .ldc 128, 47, 0, 0, 0, 778, .int ((-1000000003)), []),
  (47, .ireturn, 48, 0, 0, 0, 0, .int 0, []),
  (48, .aload_n 0, 49, 0, 0, 0, 0, .null, []),
  (49, .getfield 7, 52, 17, 0, 0, 704, .null, []),
  (52, .iconst 1, 53, 0, 0, 0, 0, .int (nI 1), []),
  (53, .iaload, 54, 0, 0, 0, 0, .null, []),
  (54, .istore 4, 56, 0, 0, 0, 0, .null, []),
  (56, .aload_n 0, 57, 0, 0, 0, 0, .null, []),
  (57, .iload 4, 59, 0, 0, 0, 0, .null, []),
  (59, .iconst 0, 60, 0, 0, 0, 0, .int (nI 0), []),
  (60, .iload_n 1, 61, 0, 0, 0, 0, .null, []),
  (61, .invokevirtual 108, 64, 103, 0, 17, 810, .retAddr 4, []),
  (64, .aload_n 0, 65, 0, 0, 0, 0, .null, []),
  (65, .iload 4, 67, 0, 0, 0, 0, .null, []),
  (67, .iconst 1, 68, 0, 0, 0, 0, .int (nI 1), []),
  (68, .iload_n 2, 69, 0, 0, 0, 0, .null, []),
  (69, .invokevirtual 108, 72, 103, 0, 17, 810, .retAddr 4, []),
  (72, .aload_n 0, 73, 0, 0, 0, 0, .null, []),
  (73, .iload 4, 75, 0, 0, 0, 0, .null, []),
  (75, .iconst 2, 76, 0, 0, 0, 0, .int (nI 2), []),
  (76, .iload_n 3, 77, 0, 0, 0, 0, .null, []),
  (77, .invokevirtual 108, 80, 103, 0, 17, 810, .retAddr 4, []),
  (80, .aload_n 0, 81, 0, 0, 0, 0, .null, []),
  (81, .iload 4, 83, 0, 0, 0, 0, .null, []),
  (83, .iconst 3, 84, 0, 0, 0, 0, .int (nI 3), []),
  (84, .aload_n 0, 85, 0, 0, 0, 0, .null, [])]
def cd120_1 : List En := [(85, .getfield 7, 88, 17, 0, 0, 704, .null, []),
  (88, .bipush 17, 90, 0, 0, 0, 0, .int (nI 17), []),
  (90, .iaload, 91, 0, 0, 0, 0, .null, []),
  (91, .invokevirtual 108, 94, 103, 0, 17, 810, .retAddr 4, []),
  (94, .aload_n 0, 95, 0, 0, 0, 0, .null, []),
  (95, .iload 4, 97, 0, 0, 0, 0, .null, []),
  (97, .iconst 4, 98, 0, 0, 0, 0, .int (nI 4), []),
  (98, .iconst 0, 99, 0, 0, 0, 0, .int (nI 0), []),
  (99, .invokevirtual 108, 102, 103, 0, 17, 810, .retAddr 4, []),
  (102, .aload_n 0, 103, 0, 0, 0, 0, .null, []),
  (103, .iload 4, 105, 0, 0, 0, 0, .null, []),
  (105, .iconst 5, 106, 0, 0, 0, 0, .int (nI 5), []),
  (106, .iconst 0, 107, 0, 0, 0, 0, .int (nI 0), []),
  (107, .invokevirtual 108, 110, 103, 0, 17, 810, .retAddr 4, []),
  (110, .aload_n 0, 111, 0, 0, 0, 0, .null, []),
  (111, .getfield 7, 114, 17, 0, 0, 704, .null, []),
  (114, .iconst 1, 115, 0, 0, 0, 0, .int (nI 1), []),
  (115, .dup2, 116, 0, 0, 0, 0, .null, []),
  (116, .iaload, 117, 0, 0, 0, 0, .null, []),
  (117, .iconst 1, 118, 0, 0, 0, 0, .int (nI 1), []),
  (118, .iadd, 119, 0, 0, 0, 0, .null, []),
  (119, .iastore, 120, 0, 0, 0, 0, .null, []),
  (120, .iload 4, 122, 0, 0, 0, 0, .null, []),
  (122, .ireturn, 123, 0, 0, 0, 0, .int 0, [])]
def cd120 : List En := cd120_0 ++ (cd120_1)
def cd121 : List En := [(0, .aload_n 0, 1, 0, 0, 0, 0, .null, []),
  (1, .iload_n 1, 2, 0, 0, 0, 0, .null, []),
  (2, .invokevirtual 129, 5, 101, 0, 17, 822, .retAddr 2, []),
  (5, .ifCond .ne 6, 8, 11, 0, 0, 0, .null, []),
  (8, .ldc 41, 10, 0, 0, 0, 794, .int ((-1000000001)), []),
  (10, .ireturn, 11, 0, 0, 0, 0, .int 0, []),
  (11, .aload_n 0, 12, 0, 0, 0, 0, .null, []),
  (12, .iload_n 1, 13, 0, 0, 0, 0, .null, []),
  (13, .iconst 4, 14, 0, 0, 0, 0, .int (nI 4), []),
  (14, .invokevirtual 58, 17, 102, 0, 17, 826, .retAddr 3, []),
  (17, .iload_n 2, 18, 0, 0, 0, 0, .null, []),
  (18, .if_icmp .ne 6, 21, 24, 0, 0, 0, .null, []),
  (21, .ldc 132, 23, 0, 0, 0, 830, .int ((-1000000002)), []),
  (23, .ireturn, 24, 0, 0, 0, 0, .int 0, []),
  (24, .aload_n 0, 25, 0, 0, 0, 0, .null, []),
  (25, .iload_n 1, 26, 0, 0, 0, 0, .null, []),
  (26, .iconst 4, 27, 0, 0, 0, 0, .int (nI 4), []),
  (27, .iload_n 2, 28, 0, 0, 0, 0, .null, []),
  (28, .invokevirtual 108, 31, 103, 0, 17, 810, .retAddr 4, []),
  (31, .aload_n 0, 32, 0, 0, 0, 0, .null, []),
  (32, .invokevirtual 133, 35, 107, 2, 17, 831, .retAddr 1, []),
  (35, .ireturn, 36, 0, 0, 0, 0, .int 0, [])]
def cd122 : List En := [(0, .aload_n 0, 1, 0, 0, 0, 0, .null, []),
  (1, .iload_n 1, 2, 0, 0, 0, 0, .null, []),
  (2, .invokevirtual 125, 5, 100, 0, 17, 806, .retAddr 2, []),
  (5, .ifCond .eq 7, 8, 12, 0, 0, 0, .null, []),
  (8, .iload_n 1, 9, 0, 0, 0, 0, .null, []),
  (9, .ifCond .ne 6, 12, 15, 0, 0, 0, .null, []),
  (12, .ldc 41, 14, 0, 0, 0, 794, .int ((-1000000001)), []),
  (14, .ireturn, 15, 0, 0, 0, 0, .int 0, []),
  (15, .aload_n 0, 16, 0, 0, 0, 0, .null, []),
  (16, .getfield 7, 19, 17, 0, 0, 704, .null, []),
  (19, .bipush 7, 21, 0, 0, 0, 0, .int (nI 7), []),
  (21, .iaload, 22, 0, 0, 0, 0, .null, []),
  (22, .iload_n 1, 23, 0, 0, 0, 0, .null, []),
  (23, .if_icmp .ne 6, 26, 29, 0, 0, 0, .null, []),
  (26, .ldc 132, 28, 0, 0, 0, 830, .int ((-1000000002)), []),
  (28, .ireturn, 29, 0, 0, 0, 0, .int 0, []),
  (29, .aload_n 0, 30, 0, 0, 0, 0, .null, []),
  (30, .getfield 7, 33, 17, 0, 0, 704, .null, []),
  (33, .bipush 7, 35, 0, 0, 0, 0, .int (nI 7), []),
  (35, .iaload, 36, 0, 0, 0, 0, .null, []),
  (36, .istore_n 2, 37, 0, 0, 0, 0, .null, []),
  (37, .aload_n 0, 38, 0, 0, 0, 0, .null, []),
  (38, .getfield 7, 41, 17, 0, 0, 704, .null, []),
  (41, .bipush 7, 43, 0, 0, 0, 0, .int (nI 7), []),
  (43, .iload_n 1, 44, 0, 0, 0, 0, .null, []),
  (44, .iastore, 45, 0, 0, 0, 0, .null, []),
  (45, .aload_n 0, 46, 0, 0, 0, 0, .null, []),
  (46, .getfield 7, 49, 17, 0, 0, 704, .null, []),
  (49, .bipush 9, 51, 0, 0, 0, 0, .int (nI 9), []),
  (51, .iconst 0, 52, 0, 0, 0, 0, .int (nI 0), []),
  (52, .iastore, 53, 0, 0, 0, 0, .null, []),
  (53, .iload_n 2, 54, 0, 0, 0, 0, .null, []),
  (54, .ireturn, 55, 0, 0, 0, 0, .int 0, [])]
def cd123 : List En := [(0, .iload_n 1, 1, 0, 0, 0, 0, .null, []),
  (1, .iconst 1, 2, 0, 0, 0, 0, .int (nI 1), []),
  (2, .iconst 5, 3, 0, 0, 0, 0, .int (nI 5), []),
  (3, .invokestatic 42, 6, 95, 0, 0, 795, .retAddr 3, []),
  (6, .ifCond .ne 6, 9, 12, 0, 0, 0, .null, []),
  (9, .ldc 41, 11, 0, 0, 0, 794, .int ((-1000000001)), []),
  (11, .ireturn, 12, 0, 0, 0, 0, .int 0, []),
  (12, .aload_n 0, 13, 0, 0, 0, 0, .null, []),
  (13, .getfield 7, 16, 17, 0, 0, 704, .null, []),
  (16, .iconst 0, 17, 0, 0, 0, 0, .int (nI 0), []),
  (17, .iaload, 18, 0, 0, 0, 0, .null, []),
  (18, .iconst 2, 19, 0, 0, 0, 0, .int (nI 2), []),
  (19, .if_icmp .ge 6, 22, 25, 0, 0, 0, .null, []),
  (22, .ldc 132, 24, 0, 0, 0, 830, .int ((-1000000002)), []),
  (24, .ireturn, 25, 0, 0, 0, 0, .int 0, []),
  (25, .aload_n 0, 26, 0, 0, 0, 0, .null, []),
  (26, .getfield 7, 29, 17, 0, 0, 704, .null, []),
  (29, .iconst 4, 30, 0, 0, 0, 0, .int (nI 4), []),
  (30, .iaload, 31, 0, 0, 0, 0, .null, []),
  (31, .istore_n 2, 32, 0, 0, 0, 0, .null, []),
  (32, .aload_n 0, 33, 0, 0, 0, 0, .null, []),
  (33, .iload_n 1, 34, 0, 0, 0, 0, .null, []),
  (34, .invokevirtual 136, 37, 119, 1, 17, 855, .retAddr 2, []),
  (37, .aload_n 0, 38, 0, 0, 0, 0, .null, []),
  (38, .getfield 7, 41, 17, 0, 0, 704, .null, []),
  (41, .iconst 4, 42, 0, 0, 0, 0, .int (nI 4), []),
  (42, .iaload, 43, 0, 0, 0, 0, .null, []),
  (43, .iload_n 2, 44, 0, 0, 0, 0, .null, []),
  (44, .isub, 45, 0, 0, 0, 0, .null, []),
  (45, .ireturn, 46, 0, 0, 0, 0, .int 0, [])]
def cd124 : List En := [(0, .iload_n 0, 1, 0, 0, 0, 0, .null, []),
  (1, .tableswitch 93 0 6 #[43, 50, 58, 67, 75, 83, 75], 44, 94, 0, 0, 0, .null, [(nI 0, 44), (nI 1, 51), (nI 2, 59), (nI 3, 68), (nI 4, 76), (nI 5, 84), (nI 6, 76)]),
  (44, .iload_n 1, 45, 0, 0, 0, 0, .null, []),
  (45, .iconst 1, 46, 0, 0, 0, 0, .int (nI 1), []),
  (46, .iconst 5, 47, 0, 0, 0, 0, .int (nI 5), []),
  (47, .invokestatic 42, 50, 95, 0, 0, 795, .retAddr 3, []),
  (50, .ireturn, 51, 0, 0, 0, 0, .int 1, []),
  (51, .iload_n 1, 52, 0, 0, 0, 0, .null, []),
  (52, .iconst 0, 53, 0, 0, 0, 0, .int (nI 0), []),
  (53, .bipush 90, 55, 0, 0, 0, 0, .int (nI 90), []),
  (55, .invokestatic 42, 58, 95, 0, 0, 795, .retAddr 3, []),
  (58, .ireturn, 59, 0, 0, 0, 0, .int 1, []),
  (59, .iload_n 1, 60, 0, 0, 0, 0, .null, []),
  (60, .iconst 1, 61, 0, 0, 0, 0, .int (nI 1), []),
  (61, .sipush 999, 64, 0, 0, 0, 0, .int (nI 999), []),
  (64, .invokestatic 42, 67, 95, 0, 0, 795, .retAddr 3, []),
  (67, .ireturn, 68, 0, 0, 0, 0, .int 1, []),
  (68, .iload_n 1, 69, 0, 0, 0, 0, .null, []),
  (69, .iconst 0, 70, 0, 0, 0, 0, .int (nI 0), []),
  (70, .bipush 9, 72, 0, 0, 0, 0, .int (nI 9), []),
  (72, .invokestatic 42, 75, 95, 0, 0, 795, .retAddr 3, []),
  (75, .ireturn, 76, 0, 0, 0, 0, .int 1, []),
  (76, .iload_n 1, 77, 0, 0, 0, 0, .null, []),
  (77, .iconst 1, 78, 0, 0, 0, 0, .int (nI 1), []),
  (78, .bipush 99, 80, 0, 0, 0, 0, .int (nI 99), []),
  (80, .invokestatic 42, 83, 95, 0, 0, 795, .retAddr 3, []),
  (83, .ireturn, 84, 0, 0, 0, 0, .int 1, []),
  (84, .iload_n 1, 85, 0, 0, 0, 0, .null, []),
  (85, .bipush 100, 87, 0, 0, 0, 0, .int (nI 100), []),
  (87, .sipush 9999, 90, 0, 0, 0, 0, .int (nI 9999), []),
  (90, .invokestatic 42, 93, 95, 0, 0, 795, .retAddr 3, []),
  (93, .ireturn, 94, 0, 0, 0, 0, .int 1, []),
  (94, .iconst 0, 95, 0, 0, 0, 0, .int (nI 0), []),
  (95, .ireturn, 96, 0, 0, 0, 0, .int 1, [])]
def cd125 : List En := [(0, .iload_n 1, 1, 0, 0, 0, 0, .null, []),
  (1, .iload_n 2, 2, 0, 0, 0, 0, .null, []),
  (2, .invokestatic 139, 5, 124, 0, 0, 917, .retAddr 2, []),
  (5, .ifCond .ne 6, 8, 11, 0, 0, 0, .null, []),
  (8, .ldc 41, 10, 0, 0, 0, 794, .int ((-1000000001)), []),
  (10, .ireturn, 11, 0, 0, 0, 0, .int 0, []),
  (11, .aload_n 0, 12, 0, 0, 0, 0, .null, []),
  (12, .getfield 7, 15, 17, 0, 0, 704, .null, []),
  (15, .bipush 13, 17, 0, 0, 0, 0, .int (nI 13), []),
  (17, .iload_n 1, 18, 0, 0, 0, 0, .null, []),
  (18, .iadd, 19, 0, 0, 0, 0, .null, []),
  (19, .iaload, 20, 0, 0, 0, 0, .null, []),
  (20, .istore_n 3, 21, 0, 0, 0, 0, .null, []),
  (21, .aload_n 0, 22, 0, 0, 0, 0, .null, []),
  (22, .getfield 7, 25, 17, 0, 0, 704, .null, []),
  (25, .bipush 13, 27, 0, 0, 0, 0, .int (nI 13), []),
  (27, .iload_n 1, 28, 0, 0, 0, 0, .null, []),
  (28, .iadd, 29, 0, 0, 0, 0, .null, []),
  (29, .iload_n 2, 30, 0, 0, 0, 0, .null, []),
  (30, .iastore, 31, 0, 0, 0, 0, .null, []),
  (31, .iload_n 3, 32, 0, 0, 0, 0, .null, []),
  (32, .ireturn, 33, 0, 0, 0, 0, .int 0, [])]
def cd126 : List En := [(0, .aload_n 0, 1, 0, 0, 0, 0, .null, []),
  (1, .getfield 7, 4, 17, 0, 0, 704, .null, []),
  (4, .iconst 0, 5, 0, 0, 0, 0, .int (nI 0), []),
  (5, .iaload, 6, 0, 0, 0, 0, .null, []),
  (6, .bipush 10, 8, 0, 0, 0, 0, .int (nI 10), []),
  (8, .if_icmp .ne 6, 11, 14, 0, 0, 0, .null, []),
  (11, .ldc 128, 13, 0, 0, 0, 778, .int ((-1000000003)), []),
  (13, .ireturn, 14, 0, 0, 0, 0, .int 0, []),
  (14, .aload_n 0, 15, 0, 0, 0, 0, .null, []),
  (15, .invokevirtual 143, 18, 98, 0, 17, 779, .retAddr 1, []),
  (18, .aload_n 0, 19, 0, 0, 0, 0, .null, []),
  (19, .getfield 7, 22, 17, 0, 0, 704, .null, []),
  (22, .iconst 0, 23, 0, 0, 0, 0, .int (nI 0), []),
  (23, .dup2, 24, 0, 0, 0, 0, .null, []),
  (24, .iaload, 25, 0, 0, 0, 0, .null, []),
  (25, .iconst 1, 26, 0, 0, 0, 0, .int (nI 1), []),
  (26, .iadd, 27, 0, 0, 0, 0, .null, []),
  (27, .iastore, 28, 0, 0, 0, 0, .null, []),
  (28, .aload_n 0, 29, 0, 0, 0, 0, .null, []),
  (29, .aload_n 0, 30, 0, 0, 0, 0, .null, []),
  (30, .getfield 7, 33, 17, 0, 0, 704, .null, []),
  (33, .iconst 0, 34, 0, 0, 0, 0, .int (nI 0), []),
  (34, .iaload, 35, 0, 0, 0, 0, .null, []),
  (35, .iconst 1, 36, 0, 0, 0, 0, .int (nI 1), []),
  (36, .isub, 37, 0, 0, 0, 0, .null, []),
  (37, .invokevirtual 146, 40, 99, 1, 17, 786, .retAddr 2, []),
  (40, .ireturn, 41, 0, 0, 0, 0, .int 0, [])]
def cd127 : List En := [(0, .aload_n 0, 1, 0, 0, 0, 0, .null, []),
  (1, .invokevirtual 143, 4, 98, 0, 17, 779, .retAddr 1, []),
  (4, .aload_n 0, 5, 0, 0, 0, 0, .null, []),
  (5, .aload_n 0, 6, 0, 0, 0, 0, .null, []),
  (6, .iload_n 1, 7, 0, 0, 0, 0, .null, []),
  (7, .iload_n 2, 8, 0, 0, 0, 0, .null, []),
  (8, .iload_n 3, 9, 0, 0, 0, 0, .null, []),
  (9, .invokevirtual 149, 12, 120, 1, 17, 802, .retAddr 4, []),
  (12, .invokevirtual 146, 15, 99, 1, 17, 786, .retAddr 2, []),
  (15, .ireturn, 16, 0, 0, 0, 0, .int 0, [])]
def cd128 : List En := [(0, .aload_n 0, 1, 0, 0, 0, 0, .null, []),
  (1, .invokevirtual 143, 4, 98, 0, 17, 779, .retAddr 1, []),
  (4, .aload_n 0, 5, 0, 0, 0, 0, .null, []),
  (5, .aload_n 0, 6, 0, 0, 0, 0, .null, []),
  (6, .iload_n 1, 7, 0, 0, 0, 0, .null, []),
  (7, .iload_n 2, 8, 0, 0, 0, 0, .null, []),
  (8, .ifCond .eq 7, 11, 15, 0, 0, 0, .null, []),
  (11, .iconst 1, 12, 0, 0, 0, 0, .int (nI 1), []),
  (12, .goto 4, 15, 16, 0, 0, 0, .null, []),
  (15, .iconst 0, 16, 0, 0, 0, 0, .int (nI 0), []),
  (16, .invokevirtual 153, 19, 121, 0, 17, 818, .retAddr 3, []),
  (19, .invokevirtual 146, 22, 99, 1, 17, 786, .retAddr 2, []),
  (22, .ireturn, 23, 0, 0, 0, 0, .int 0, [])]
def cd129 : List En := [(0, .aload_n 0, 1, 0, 0, 0, 0, .null, []),
  (1, .invokevirtual 143, 4, 98, 0, 17, 779, .retAddr 1, []),
  (4, .aload_n 0, 5, 0, 0, 0, 0, .null, []),
  (5, .aload_n 0, 6, 0, 0, 0, 0, .null, []),
  (6, .iload_n 1, 7, 0, 0, 0, 0, .null, []),
  (7, .invokevirtual 156, 10, 122, 1, 17, 843, .retAddr 2, []),
  (10, .invokevirtual 146, 13, 99, 1, 17, 786, .retAddr 2, []),
  (13, .ireturn, 14, 0, 0, 0, 0, .int 0, [])]
def cd130 : List En := [(0, .aload_n 0, 1, 0, 0, 0, 0, .null, []),
  (1, .invokevirtual 143, 4, 98, 0, 17, 779, .retAddr 1, []),
  (4, .aload_n 0, 5, 0, 0, 0, 0, .null, []),
  (5, .aload_n 0, 6, 0, 0, 0, 0, .null, []),
  (6, .iload_n 1, 7, 0, 0, 0, 0, .null, []),
  (7, .invokevirtual 159, 10, 123, 1, 17, 851, .retAddr 2, []),
  (10, .invokevirtual 146, 13, 99, 1, 17, 786, .retAddr 2, []),
  (13, .ireturn, 14, 0, 0, 0, 0, .int 0, [])]
def cd131 : List En := [(0, .aload_n 0, 1, 0, 0, 0, 0, .null, []),
  (1, .invokevirtual 143, 4, 98, 0, 17, 779, .retAddr 1, []),
  (4, .aload_n 0, 5, 0, 0, 0, 0, .null, []),
  (5, .invokevirtual 162, 8, 109, 2, 17, 905, .retAddr 1, []),
  (8, .istore_n 1, 9, 0, 0, 0, 0, .null, []),
  (9, .aload_n 0, 10, 0, 0, 0, 0, .null, []),
  (10, .getfield 7, 13, 17, 0, 0, 704, .null, []),
  (13, .bipush 9, 15, 0, 0, 0, 0, .int (nI 9), []),
  (15, .iconst 0, 16, 0, 0, 0, 0, .int (nI 0), []),
  (16, .iastore, 17, 0, 0, 0, 0, .null, []),
  (17, .iconst 0, 18, 0, 0, 0, 0, .int (nI 0), []),
  (18, .istore_n 2, 19, 0, 0, 0, 0, .null, []),
  (19, .iload_n 2, 20, 0, 0, 0, 0, .null, []),
  (20, .aload_n 0, 21, 0, 0, 0, 0, .null, []),
  (21, .getfield 7, 24, 17, 0, 0, 704, .null, []),
  (24, .iconst 1, 25, 0, 0, 0, 0, .int (nI 1), []),
  (25, .iaload, 26, 0, 0, 0, 0, .null, []),
  (26, .if_icmp .ge 22, 29, 48, 0, 0, 0, .null, []),
  (29, .aload_n 0, 30, 0, 0, 0, 0, .null, []),
  (30, .iload_n 2, 31, 0, 0, 0, 0, .null, []),
  (31, .iconst 3, 32, 0, 0, 0, 0, .int (nI 3), []),
  (32, .aload_n 0, 33, 0, 0, 0, 0, .null, []),
  (33, .getfield 7, 36, 17, 0, 0, 704, .null, []),
  (36, .bipush 17, 38, 0, 0, 0, 0, .int (nI 17), []),
  (38, .iaload, 39, 0, 0, 0, 0, .null, []),
  (39, .invokevirtual 108, 42, 103, 0, 17, 810, .retAddr 4, []),
  (42, .iinc 2 1, 45, 0, 0, 0, 0, .null, []),
  (45, .goto (-26), 48, 19, 0, 0, 0, .null, []),
  (48, .aload_n 0, 49, 0, 0, 0, 0, .null, []),
  (49, .iload_n 1, 50, 0, 0, 0, 0, .null, []),
  (50, .aload_n 0, 51, 0, 0, 0, 0, .null, []),
  (51, .invokevirtual 162, 54, 109, 2, 17, 905, .retAddr 1, []),
  (54, .isub, 55, 0, 0, 0, 0, .null, []),
  (55, .invokevirtual 146, 58, 99, 1, 17, 786, .retAddr 2, []),
  (58, .ireturn, 59, 0, 0, 0, 0, .int 0, [])]
def cd132 : List En := [(0, .aload_n 0, 1, 0, 0, 0, 0, .null, []),
  (1, .invokevirtual 143, 4, 98, 0, 17, 779, .retAddr 1, []),
  (4, .aload_n 0, 5, 0, 0, 0, 0, .null, []),
  (5, .aload_n 0, 6, 0, 0, 0, 0, .null, []),
  (6, .iload_n 1, 7, 0, 0, 0, 0, .null, []),
  (7, .iload_n 2, 8, 0, 0, 0, 0, .null, []),
  (8, .invokevirtual 165, 11, 125, 1, 17, 913, .retAddr 3, []),
  (11, .invokevirtual 146, 14, 99, 1, 17, 786, .retAddr 2, []),
  (14, .ireturn, 15, 0, 0, 0, 0, .int 0, [])]
def cd133 : List En := [(0, .aload_n 0, 1, 0, 0, 0, 0, .null, []),
  (1, .getfield 7, 4, 17, 0, 0, 704, .null, []),
  (4, .bipush 9, 6, 0, 0, 0, 0, .int (nI 9), []),
  (6, .iaload, 7, 0, 0, 0, 0, .null, []),
  (7, .ifCond .le 17, 10, 24, 0, 0, 0, .null, []),
  (10, .aload_n 0, 11, 0, 0, 0, 0, .null, []),
  (11, .getfield 7, 14, 17, 0, 0, 704, .null, []),
  (14, .bipush 12, 16, 0, 0, 0, 0, .int (nI 12), []),
  (16, .iaload, 17, 0, 0, 0, 0, .null, []),
  (17, .iload_n 1, 18, 0, 0, 0, 0, .null, []),
  (18, .ishr, 19, 0, 0, 0, 0, .null, []),
  (19, .iconst 1, 20, 0, 0, 0, 0, .int (nI 1), []),
  (20, .iand, 21, 0, 0, 0, 0, .null, []),
  (21, .goto 4, 24, 25, 0, 0, 0, .null, []),
  (24, .iconst 0, 25, 0, 0, 0, 0, .int (nI 0), []),
  (25, .ireturn, 26, 0, 0, 0, 0, .int 0, [])]
def cd134 : List En := [(0, .aload_n 0, 1, 0, 0, 0, 0, .null, []),
  (1, .iload_n 1, 2, 0, 0, 0, 0, .null, []),
  (2, .invokevirtual 129, 5, 101, 0, 17, 822, .retAddr 2, []),
  (5, .ifCond .ne 6, 8, 11, 0, 0, 0, .null, []),
  (8, .ldc 41, 10, 0, 0, 0, 794, .int ((-1000000001)), []),
  (10, .ireturn, 11, 0, 0, 0, 0, .int 0, []),
  (11, .iload_n 2, 12, 0, 0, 0, 0, .null, []),
  (12, .tableswitch 74 0 7 #[48, 48, 48, 48, 48, 55, 61, 68], 60, 86, 0, 0, 0, .null, [(nI 0, 60), (nI 1, 60), (nI 2, 60), (nI 3, 60), (nI 4, 60), (nI 5, 67), (nI 6, 73), (nI 7, 80)]),
  (60, .aload_n 0, 61, 0, 0, 0, 0, .null, []),
  (61, .iload_n 1, 62, 0, 0, 0, 0, .null, []),
  (62, .iload_n 2, 63, 0, 0, 0, 0, .null, []),
  (63, .invokevirtual 58, 66, 102, 0, 17, 826, .retAddr 3, []),
  (66, .ireturn, 67, 0, 0, 0, 0, .int 0, []),
  (67, .aload_n 0, 68, 0, 0, 0, 0, .null, []),
  (68, .iload_n 1, 69, 0, 0, 0, 0, .null, []),
  (69, .invokevirtual 89, 72, 106, 0, 17, 883, .retAddr 2, []),
  (72, .ireturn, 73, 0, 0, 0, 0, .int 0, []),
  (73, .aload_n 0, 74, 0, 0, 0, 0, .null, []),
  (74, .iload_n 1, 75, 0, 0, 0, 0, .null, []),
  (75, .iconst 5, 76, 0, 0, 0, 0, .int (nI 5), []),
  (76, .invokevirtual 58, 79, 102, 0, 17, 826, .retAddr 3, []),
  (79, .ireturn, 80, 0, 0, 0, 0, .int 0, []),
  (80, .aload_n 0, 81, 0, 0, 0, 0, .null, []),
  (81, .iload_n 1, 82, 0, 0, 0, 0, .null, []),
  (82, .invokevirtual 168, 85, 133, 0, 17, 924, .retAddr 2, []),
  (85, .ireturn, 86, 0, 0, 0, 0, .int 0, []),
  (86, .ldc 41, 88, 0, 0, 0, 794, .int ((-1000000001)), []),
  (88, .ireturn, 89, 0, 0, 0, 0, .int 0, [])]
def cd135 : List En := [(0, .iconst 0, 1, 0, 0, 0, 0, .int (nI 0), []),
  (1, .istore_n 2, 2, 0, 0, 0, 0, .null, []),
  (2, .iconst 0, 3, 0, 0, 0, 0, .int (nI 0), []),
  (3, .istore_n 3, 4, 0, 0, 0, 0, .null, []),
  (4, .iload_n 3, 5, 0, 0, 0, 0, .null, []),
  (5, .aload_n 0, 6, 0, 0, 0, 0, .null, []),
  (6, .getfield 7, 9, 17, 0, 0, 704, .null, []),
  (9, .bipush 10, 11, 0, 0, 0, 0, .int (nI 10), []),
  (11, .iaload, 12, 0, 0, 0, 0, .null, []),
  (12, .if_icmp .gt 38, 15, 50, 0, 0, 0, .null, []),
  (15, .aload_n 0, 16, 0, 0, 0, 0, .null, []),
  (16, .getfield 7, 19, 17, 0, 0, 704, .null, []),
  (19, .bipush 9, 21, 0, 0, 0, 0, .int (nI 9), []),
  (21, .iaload, 22, 0, 0, 0, 0, .null, []),
  (22, .ifCond .le 20, 25, 42, 0, 0, 0, .null, []),
  (25, .aload_n 0, 26, 0, 0, 0, 0, .null, []),
  (26, .getfield 7, 29, 17, 0, 0, 704, .null, []),
  (29, .bipush 20, 31, 0, 0, 0, 0, .int (nI 20), []),
  (31, .iload_n 3, 32, 0, 0, 0, 0, .null, []),
  (32, .iadd, 33, 0, 0, 0, 0, .null, []),
  (33, .iaload, 34, 0, 0, 0, 0, .null, []),
  (34, .iload_n 1, 35, 0, 0, 0, 0, .null, []),
  (35, .if_icmp .ne 7, 38, 42, 0, 0, 0, .null, []),
  (38, .iconst 1, 39, 0, 0, 0, 0, .int (nI 1), []),
  (39, .goto 4, 42, 43, 0, 0, 0, .null, []),
  (42, .iload_n 2, 43, 0, 0, 0, 0, .null, []),
  (43, .istore_n 2, 44, 0, 0, 0, 0, .null, []),
  (44, .iinc 3 1, 47, 0, 0, 0, 0, .null, []),
  (47, .goto (-43), 50, 4, 0, 0, 0, .null, []),
  (50, .iload_n 2, 51, 0, 0, 0, 0, .null, []),
  (51, .ireturn, 52, 0, 0, 0, 0, .int 0, [])]
def cd136 : List En := [(0, .aload_n 0, 1, 0, 0, 0, 0, .null, []),
  (1, .iload_n 1, 2, 0, 0, 0, 0, .null, []),
  (2, .invokevirtual 125, 5, 100, 0, 17, 806, .retAddr 2, []),
  (5, .ifCond .ne 6, 8, 11, 0, 0, 0, .null, []),
  (8, .ldc 41, 10, 0, 0, 0, 794, .int ((-1000000001)), []),
  (10, .ireturn, 11, 0, 0, 0, 0, .int 0, []),
  (11, .iload_n 2, 12, 0, 0, 0, 0, .null, []),
  (12, .tableswitch 70 0 4 #[36, 42, 42, 58, 64], 48, 82, 0, 0, 0, .null, [(nI 0, 48), (nI 1, 54), (nI 2, 54), (nI 3, 70), (nI 4, 76)]),
  (48, .aload_n 0, 49, 0, 0, 0, 0, .null, []),
  (49, .iload_n 1, 50, 0, 0, 0, 0, .null, []),
  (50, .invokevirtual 171, 53, 108, 2, 17, 932, .retAddr 2, []),
  (53, .ireturn, 54, 0, 0, 0, 0, .int 0, []),
  (54, .aload_n 0, 55, 0, 0, 0, 0, .null, []),
  (55, .getfield 7, 58, 17, 0, 0, 704, .null, []),
  (58, .bipush 126, 60, 0, 0, 0, 0, .int (nI 126), []),
  (60, .iconst 2, 61, 0, 0, 0, 0, .int (nI 2), []),
  (61, .iload_n 1, 62, 0, 0, 0, 0, .null, []),
  (62, .imul, 63, 0, 0, 0, 0, .null, []),
  (63, .iadd, 64, 0, 0, 0, 0, .null, []),
  (64, .iload_n 2, 65, 0, 0, 0, 0, .null, []),
  (65, .iadd, 66, 0, 0, 0, 0, .null, []),
  (66, .iconst 1, 67, 0, 0, 0, 0, .int (nI 1), []),
  (67, .isub, 68, 0, 0, 0, 0, .null, []),
  (68, .iaload, 69, 0, 0, 0, 0, .null, []),
  (69, .ireturn, 70, 0, 0, 0, 0, .int 0, []),
  (70, .aload_n 0, 71, 0, 0, 0, 0, .null, []),
  (71, .iload_n 1, 72, 0, 0, 0, 0, .null, []),
  (72, .invokevirtual 174, 75, 110, 5, 17, 936, .retAddr 2, []),
  (75, .ireturn, 76, 0, 0, 0, 0, .int 0, []),
  (76, .aload_n 0, 77, 0, 0, 0, 0, .null, []),
  (77, .iload_n 1, 78, 0, 0, 0, 0, .null, []),
  (78, .invokevirtual 177, 81, 135, 2, 17, 940, .retAddr 2, []),
  (81, .ireturn, 82, 0, 0, 0, 0, .int 0, []),
  (82, .ldc 41, 84, 0, 0, 0, 794, .int ((-1000000001)), []),
  (84, .ireturn, 85, 0, 0, 0, 0, .int 0, [])]
def cd137 : List En := [(0, .iload_n 1, 1, 0, 0, 0, 0, .null, []),
  (1, .iconst 0, 2, 0, 0, 0, 0, .int (nI 0), []),
  (2, .iconst 3, 3, 0, 0, 0, 0, .int (nI 3), []),
  (3, .invokestatic 42, 6, 95, 0, 0, 795, .retAddr 3, []),
  (6, .ifCond .ne 6, 9, 12, 0, 0, 0, .null, []),
  (9, .ldc 41, 11, 0, 0, 0, 794, .int ((-1000000001)), []),
  (11, .ireturn, 12, 0, 0, 0, 0, .int 0, []),
  (12, .aload_n 0, 13, 0, 0, 0, 0, .null, []),
  (13, .getfield 7, 16, 17, 0, 0, 704, .null, []),
  (16, .bipush 9, 18, 0, 0, 0, 0, .int (nI 9), []),
  (18, .iaload, 19, 0, 0, 0, 0, .null, []),
  (19, .ifCond .ne 8, 22, 27, 0, 0, 0, .null, []),
  (22, .ldc 40, 24, 0, 0, 0, 793, .int ((-1000000004)), []),
  (24, .goto 12, 27, 36, 0, 0, 0, .null, []),
  (27, .aload_n 0, 28, 0, 0, 0, 0, .null, []),
  (28, .getfield 7, 31, 17, 0, 0, 704, .null, []),
  (31, .bipush 9, 33, 0, 0, 0, 0, .int (nI 9), []),
  (33, .iload_n 1, 34, 0, 0, 0, 0, .null, []),
  (34, .iadd, 35, 0, 0, 0, 0, .null, []),
  (35, .iaload, 36, 0, 0, 0, 0, .null, []),
  (36, .ireturn, 37, 0, 0, 0, 0, .int 0, [])]
def cd138 : List En := [(0, .iload_n 1, 1, 0, 0, 0, 0, .null, []),
  (1, .ifCond .ge 6, 4, 7, 0, 0, 0, .null, []),
  (4, .ldc 41, 6, 0, 0, 0, 794, .int ((-1000000001)), []),
  (6, .ireturn, 7, 0, 0, 0, 0, .int 0, []),
  (7, .aload_n 0, 8, 0, 0, 0, 0, .null, []),
  (8, .getfield 7, 11, 17, 0, 0, 704, .null, []),
  (11, .bipush 9, 13, 0, 0, 0, 0, .int (nI 9), []),
  (13, .iaload, 14, 0, 0, 0, 0, .null, []),
  (14, .ifCond .le 26, 17, 40, 0, 0, 0, .null, []),
  (17, .iload_n 1, 18, 0, 0, 0, 0, .null, []),
  (18, .aload_n 0, 19, 0, 0, 0, 0, .null, []),
  (19, .getfield 7, 22, 17, 0, 0, 704, .null, []),
  (22, .bipush 10, 24, 0, 0, 0, 0, .int (nI 10), []),
  (24, .iaload, 25, 0, 0, 0, 0, .null, []),
  (25, .if_icmp .gt 15, 28, 40, 0, 0, 0, .null, []),
  (28, .aload_n 0, 29, 0, 0, 0, 0, .null, []),
  (29, .getfield 7, 32, 17, 0, 0, 704, .null, []),
  (32, .bipush 20, 34, 0, 0, 0, 0, .int (nI 20), []),
  (34, .iload_n 1, 35, 0, 0, 0, 0, .null, []),
  (35, .iadd, 36, 0, 0, 0, 0, .null, []),
  (36, .iaload, 37, 0, 0, 0, 0, .null, []),
  (37, .goto 5, 40, 42, 0, 0, 0, .null, []),
  (40, .ldc 40, 42, 0, 0, 0, 793, .int ((-1000000004)), []),
  (42, .ireturn, 43, 0, 0, 0, 0, .int 0, [])]
def cd139_0 : List En := [(0, .aload_n 0, 1, 0, 0, 0, 0, .null, []),
  (1, .iload_n 1, 2, 0, 0, 0, 0, .null, []),
  (2, .invokevirtual 125, 5, 100, 0, 17, 806, .retAddr 2, []),
  (5, .ifCond .eq 11, 8, 16, 0, 0, 0, .null, []),
  (8, .aload_n 0, 9, 0, 0, 0, 0, .null, []),
  (9, .iload_n 2, 10, 0, 0, 0, 0, .null, []),
  (10, .invokevirtual 129, 13, 101, 0, 17, 822, .retAddr 2, []),
  (13, .ifCond .ne 6, 16, 19, 0, 0, 0, .null, []),
  (16, .ldc 41, 18, 0, 0, 0, 794, .int ((-1000000001)), []),
  (18, .ireturn, 19, 0, 0, 0, 0, .int 0, []),
  (19, .aload_n 0, 20, 0, 0, 0, 0, .null, []),
  (20, .iload_n 2, 21, 0, 0, 0, 0, .null, []),
  (21, .iload_n 1, 22, 0, 0, 0, 0, .null, []),
  (22, .invokevirtual 65, 25, 105, 0, 17, 879, .retAddr 3, []),
  (25, .iconst (-1), 26, 0, 0, 0, 0, .int ((-1)), []),
  (26, .if_icmp .eq 11, 29, 37, 0, 0, 0, .null, []),
  (29, .aload_n 0, 30, 0, 0, 0, 0, .null, []),
  (30, .iload_n 2, 31, 0, 0, 0, 0, .null, []),
  (31, .invokevirtual 62, 34, 104, 0, 17, 835, .retAddr 2, []),
  (34, .ifCond .ne 6, 37, 40, 0, 0, 0, .null, []),
  (37, .ldc 40, 39, 0, 0, 0, 793, .int ((-1000000004)), []),
  (39, .ireturn, 40, 0, 0, 0, 0, .int 0, []),
  (40, .iconst 0, 41, 0, 0, 0, 0, .int (nI 0), []),
  (41, .istore_n 3, 42, 0, 0, 0, 0, .null, []),
  (42, .iconst 0, 43, 0, 0, 0, 0, .int (nI 0), []),
  (43, .istore 4, 45, 0, 0, 0, 0, .null, []),
  (45, .iload 4, 47, 0, 0, 0, 0, .null, []),
  (47, .aload_n 0, 48, 0, 0, 0, 0, .null, []),
  (48, .getfield 7, 51, 17, 0, 0, 704, .null, []),
  (51, .iconst 1, 52, 0, 0, 0, 0, .int (nI 1), []),
  (52, .iaload, 53, 0, 0, 0, 0, .null, []),
  (53, .if_icmp .ge 42, 56, 95, 0, 0, 0, .null, []),
  (56, .iload_n 3, 57, 0, 0, 0, 0, .null, []),
  (57, .aload_n 0, 58, 0, 0, 0, 0, .null, []),
  (58, .iload 4, 60, 0, 0, 0, 0, .null, []),
  (60, .invokevirtual 62, 63, 104, 0, 17, 835, .retAddr 2, []),
  (63, .ifCond .eq 23, 66, 86, 0, 0, 0, .null, []),
  (66, .aload_n 0, 67, 0, 0, 0, 0, .null, []),
  (67, .iload 4, 69, 0, 0, 0, 0, .null, []),
  (69, .iload_n 1, 70, 0, 0, 0, 0, .null, []),
  (70, .invokevirtual 65, 73, 105, 0, 17, 879, .retAddr 3, []),
  (73, .iconst (-1), 74, 0, 0, 0, 0, .int ((-1)), []),
  (74, .if_icmp .eq 12, 77, 86, 0, 0, 0, .null, []),
  (77, .aload_n 0, 78, 0, 0, 0, 0, .null, []),
  (78, .iload 4, 80, 0, 0, 0, 0, .null, []),
  (80, .invokevirtual 89, 83, 106, 0, 17, 883, .retAddr 2, []),
  (83, .goto 4, 86, 87, 0, 0, 0, .null, []),
  (86, .iconst 0, 87, 0, 0, 0, 0, .int (nI 0), []),
  (87, .iadd, 88, 0, 0, 0, 0, .null, []),
  (88, .istore_n 3, 89, 0, 0, 0, 0, .null, [])]
def cd139_1 : List En := [(89, .iinc 4 1, 92, 0, 0, 0, 0, .null, []),
  (92, .goto (-47), 95, 45, 0, 0, 0, .null, []),
  (95, .aload_n 0, 96, 0, 0, 0, 0, .null, []),
  (96, .iload_n 2, 97, 0, 0, 0, 0, .null, []),
  (97, .invokevirtual 89, 100, 106, 0, 17, 883, .retAddr 2, []),
  (100, .i2f, 101, 0, 0, 0, 0, .null, []),
  (101, .iload_n 3, 102, 0, 0, 0, 0, .null, []),
  (102, .i2f, 103, 0, 0, 0, 0, .null, []),
  (103, .fdiv, 104, 0, 0, 0, 0, .null, []),
  (104, .invokestatic 180, 107, 161, 0, 0, 956, .retAddr 1, []),
  (107, .ireturn, 108, 0, 0, 0, 0, .int 0, [])]
def cd139 : List En := cd139_0 ++ (cd139_1)
def cd140 : List En := [(0, .aload_n 0, 1, 0, 0, 0, 0, .null, []),
  (1, .iload_n 1, 2, 0, 0, 0, 0, .null, []),
  (2, .iconst 3, 3, 0, 0, 0, 0, .int (nI 3), []),
  (3, .invokevirtual 58, 6, 102, 0, 17, 826, .retAddr 3, []),
  (6, .aload_n 0, 7, 0, 0, 0, 0, .null, []),
  (7, .iload_n 2, 8, 0, 0, 0, 0, .null, []),
  (8, .iconst 3, 9, 0, 0, 0, 0, .int (nI 3), []),
  (9, .invokevirtual 58, 12, 102, 0, 17, 826, .retAddr 3, []),
  (12, .isub, 13, 0, 0, 0, 0, .null, []),
  (13, .istore_n 3, 14, 0, 0, 0, 0, .null, []),
  (14, .iload_n 3, 15, 0, 0, 0, 0, .null, []),
  (15, .ifCond .gt 22, 18, 37, 0, 0, 0, .null, []),
  (18, .iload_n 3, 19, 0, 0, 0, 0, .null, []),
  (19, .ifCond .ne 22, 22, 41, 0, 0, 0, .null, []),
  (22, .aload_n 0, 23, 0, 0, 0, 0, .null, []),
  (23, .iload_n 1, 24, 0, 0, 0, 0, .null, []),
  (24, .iconst 2, 25, 0, 0, 0, 0, .int (nI 2), []),
  (25, .invokevirtual 58, 28, 102, 0, 17, 826, .retAddr 3, []),
  (28, .aload_n 0, 29, 0, 0, 0, 0, .null, []),
  (29, .iload_n 2, 30, 0, 0, 0, 0, .null, []),
  (30, .iconst 2, 31, 0, 0, 0, 0, .int (nI 2), []),
  (31, .invokevirtual 58, 34, 102, 0, 17, 826, .retAddr 3, []),
  (34, .if_icmp .ge 7, 37, 41, 0, 0, 0, .null, []),
  (37, .iconst 1, 38, 0, 0, 0, 0, .int (nI 1), []),
  (38, .goto 4, 41, 42, 0, 0, 0, .null, []),
  (41, .iconst 0, 42, 0, 0, 0, 0, .int (nI 0), []),
  (42, .ireturn, 43, 0, 0, 0, 0, .int 1, [])]
def cd141 : List En := [(0, .iconst (-1), 1, 0, 0, 0, 0, .int ((-1)), []),
  (1, .istore_n 1, 2, 0, 0, 0, 0, .null, []),
  (2, .iconst 0, 3, 0, 0, 0, 0, .int (nI 0), []),
  (3, .istore_n 2, 4, 0, 0, 0, 0, .null, []),
  (4, .iload_n 2, 5, 0, 0, 0, 0, .null, []),
  (5, .aload_n 0, 6, 0, 0, 0, 0, .null, []),
  (6, .getfield 7, 9, 17, 0, 0, 704, .null, []),
  (9, .iconst 1, 10, 0, 0, 0, 0, .int (nI 1), []),
  (10, .iaload, 11, 0, 0, 0, 0, .null, []),
  (11, .if_icmp .ge 47, 14, 58, 0, 0, 0, .null, []),
  (14, .aload_n 0, 15, 0, 0, 0, 0, .null, []),
  (15, .iload_n 2, 16, 0, 0, 0, 0, .null, []),
  (16, .invokevirtual 86, 19, 112, 1, 17, 875, .retAddr 2, []),
  (19, .ifCond .eq 21, 22, 40, 0, 0, 0, .null, []),
  (22, .iload_n 1, 23, 0, 0, 0, 0, .null, []),
  (23, .iconst (-1), 24, 0, 0, 0, 0, .int ((-1)), []),
  (24, .if_icmp .eq 12, 27, 36, 0, 0, 0, .null, []),
  (27, .aload_n 0, 28, 0, 0, 0, 0, .null, []),
  (28, .iload_n 2, 29, 0, 0, 0, 0, .null, []),
  (29, .iload_n 1, 30, 0, 0, 0, 0, .null, []),
  (30, .invokevirtual 186, 33, 140, 1, 17, 974, .retAddr 3, []),
  (33, .ifCond .eq 7, 36, 40, 0, 0, 0, .null, []),
  (36, .iconst 1, 37, 0, 0, 0, 0, .int (nI 1), []),
  (37, .goto 4, 40, 41, 0, 0, 0, .null, []),
  (40, .iconst 0, 41, 0, 0, 0, 0, .int (nI 0), []),
  (41, .istore_n 3, 42, 0, 0, 0, 0, .null, []),
  (42, .iload_n 3, 43, 0, 0, 0, 0, .null, []),
  (43, .ifCond .eq 7, 46, 50, 0, 0, 0, .null, []),
  (46, .iload_n 2, 47, 0, 0, 0, 0, .null, []),
  (47, .goto 4, 50, 51, 0, 0, 0, .null, []),
  (50, .iload_n 1, 51, 0, 0, 0, 0, .null, []),
  (51, .istore_n 1, 52, 0, 0, 0, 0, .null, []),
  (52, .iinc 2 1, 55, 0, 0, 0, 0, .null, []),
  (55, .goto (-51), 58, 4, 0, 0, 0, .null, []),
  (58, .iload_n 1, 59, 0, 0, 0, 0, .null, []),
  (59, .ireturn, 60, 0, 0, 0, 0, .int 0, [])]
def cd142_0 : List En := [(0, .iload_n 1, 1, 0, 0, 0, 0, .null, []),
  (1, .iconst 0, 2, 0, 0, 0, 0, .int (nI 0), []),
  (2, .iconst 3, 3, 0, 0, 0, 0, .int (nI 3), []),
  (3, .invokestatic 42, 6, 95, 0, 0, 795, .retAddr 3, []),
  (6, .ifCond .ne 6, 9, 12, 0, 0, 0, .null, []),
  (9, .ldc 41, 11, 0, 0, 0, 794, .int ((-1000000001)), []),
  (11, .ireturn, 12, 0, 0, 0, 0, .int 0, []),
  (12, .aload_n 0, 13, 0, 0, 0, 0, .null, []),
  (13, .getfield 7, 16, 17, 0, 0, 704, .null, []),
  (16, .iconst 0, 17, 0, 0, 0, 0, .int (nI 0), []),
  (17, .iaload, 18, 0, 0, 0, 0, .null, []),
  (18, .iconst 2, 19, 0, 0, 0, 0, .int (nI 2), []),
  (19, .if_icmp .ge 6, 22, 25, 0, 0, 0, .null, []),
  (22, .ldc 132, 24, 0, 0, 0, 830, .int ((-1000000002)), []),
  (24, .ireturn, 25, 0, 0, 0, 0, .int 0, []),
  (25, .aload_n 0, 26, 0, 0, 0, 0, .null, []),
  (26, .invokevirtual 97, 29, 111, 0, 17, 867, .retAddr 1, []),
  (29, .iconst 1, 30, 0, 0, 0, 0, .int (nI 1), []),
  (30, .istore_n 2, 31, 0, 0, 0, 0, .null, []),
  (31, .iload_n 2, 32, 0, 0, 0, 0, .null, []),
  (32, .ifCond .eq 45, 35, 77, 0, 0, 0, .null, []),
  (35, .aload_n 0, 36, 0, 0, 0, 0, .null, []),
  (36, .getfield 68, 39, 17, 8, 0, 712, .int 0, []),
  (39, .aload_n 0, 40, 0, 0, 0, 0, .null, []),
  (40, .getfield 7, 43, 17, 0, 0, 704, .null, []),
  (43, .bipush 7, 45, 0, 0, 0, 0, .int (nI 7), []),
  (45, .iaload, 46, 0, 0, 0, 0, .null, []),
  (46, .if_icmp .eq 31, 49, 77, 0, 0, 0, .null, []),
  (49, .aload_n 0, 50, 0, 0, 0, 0, .null, []),
  (50, .invokevirtual 189, 53, 141, 3, 17, 970, .retAddr 1, []),
  (53, .istore_n 3, 54, 0, 0, 0, 0, .null, []),
  (54, .iload_n 3, 55, 0, 0, 0, 0, .null, []),
  (55, .iconst (-1), 56, 0, 0, 0, 0, .int ((-1)), []),
  (56, .if_icmp .eq 7, 59, 63, 0, 0, 0, .null, []),
  (59, .iconst 1, 60, 0, 0, 0, 0, .int (nI 1), []),
  (60, .goto 4, 63, 64, 0, 0, 0, .null, []),
  (63, .iconst 0, 64, 0, 0, 0, 0, .int (nI 0), []),
  (64, .istore_n 2, 65, 0, 0, 0, 0, .null, []),
  (65, .iload_n 2, 66, 0, 0, 0, 0, .null, []),
  (66, .ifCond .eq 8, 69, 74, 0, 0, 0, .null, []),
  (69, .aload_n 0, 70, 0, 0, 0, 0, .null, []),
  (70, .iload_n 3, 71, 0, 0, 0, 0, .null, []),
  (71, .invokevirtual 104, 74, 113, 0, 17, 889, .retAddr 2, []),
  (74, .goto (-43), 77, 31, 0, 0, 0, .null, []),
  (77, .iload_n 1, 78, 0, 0, 0, 0, .null, []),
  (78, .ifCond .ne 10, 81, 88, 0, 0, 0, .null, []),
  (81, .aload_n 0, 82, 0, 0, 0, 0, .null, []),
  (82, .getfield 71, 85, 17, 9, 0, 713, .int 0, []),
  (85, .goto 46, 88, 131, 0, 0, 0, .null, []),
  (88, .iload_n 1, 89, 0, 0, 0, 0, .null, [])]
def cd142_1 : List En := [(89, .iconst 1, 90, 0, 0, 0, 0, .int (nI 1), []),
  (90, .if_icmp .ne 10, 93, 100, 0, 0, 0, .null, []),
  (93, .aload_n 0, 94, 0, 0, 0, 0, .null, []),
  (94, .getfield 74, 97, 17, 10, 0, 714, .int 0, []),
  (97, .goto 34, 100, 131, 0, 0, 0, .null, []),
  (100, .iload_n 1, 101, 0, 0, 0, 0, .null, []),
  (101, .iconst 3, 102, 0, 0, 0, 0, .int (nI 3), []),
  (102, .if_icmp .ne 10, 105, 112, 0, 0, 0, .null, []),
  (105, .aload_n 0, 106, 0, 0, 0, 0, .null, []),
  (106, .getfield 68, 109, 17, 8, 0, 712, .int 0, []),
  (109, .goto 22, 112, 131, 0, 0, 0, .null, []),
  (112, .aload_n 0, 113, 0, 0, 0, 0, .null, []),
  (113, .getfield 68, 116, 17, 8, 0, 712, .int 0, []),
  (116, .aload_n 0, 117, 0, 0, 0, 0, .null, []),
  (117, .getfield 7, 120, 17, 0, 0, 704, .null, []),
  (120, .bipush 7, 122, 0, 0, 0, 0, .int (nI 7), []),
  (122, .iaload, 123, 0, 0, 0, 0, .null, []),
  (123, .if_icmp .ne 7, 126, 130, 0, 0, 0, .null, []),
  (126, .iconst 1, 127, 0, 0, 0, 0, .int (nI 1), []),
  (127, .goto 4, 130, 131, 0, 0, 0, .null, []),
  (130, .iconst 0, 131, 0, 0, 0, 0, .int (nI 0), []),
  (131, .ireturn, 132, 0, 0, 0, 0, .int 0, [])]
def cd142 : List En := cd142_0 ++ (cd142_1)
def cd143 : List En := [(0, .aload_n 0, 1, 0, 0, 0, 0, .null, []),
  (1, .getfield 7, 4, 17, 0, 0, 704, .null, []),
  (4, .bipush 9, 6, 0, 0, 0, 0, .int (nI 9), []),
  (6, .iaload, 7, 0, 0, 0, 0, .null, []),
  (7, .ifCond .ne 6, 10, 13, 0, 0, 0, .null, []),
  (10, .ldc 40, 12, 0, 0, 0, 793, .int ((-1000000004)), []),
  (12, .ireturn, 13, 0, 0, 0, 0, .int 0, []),
  (13, .aload_n 0, 14, 0, 0, 0, 0, .null, []),
  (14, .aload_n 0, 15, 0, 0, 0, 0, .null, []),
  (15, .getfield 7, 18, 17, 0, 0, 704, .null, []),
  (18, .bipush 7, 20, 0, 0, 0, 0, .int (nI 7), []),
  (20, .iaload, 21, 0, 0, 0, 0, .null, []),
  (21, .invokevirtual 174, 24, 110, 5, 17, 936, .retAddr 2, []),
  (24, .istore_n 1, 25, 0, 0, 0, 0, .null, []),
  (25, .iload_n 1, 26, 0, 0, 0, 0, .null, []),
  (26, .ldc 40, 28, 0, 0, 0, 793, .int ((-1000000004)), []),
  (28, .if_icmp .ne 8, 31, 36, 0, 0, 0, .null, []),
  (31, .ldc 40, 33, 0, 0, 0, 793, .int ((-1000000004)), []),
  (33, .goto 12, 36, 45, 0, 0, 0, .null, []),
  (36, .aload_n 0, 37, 0, 0, 0, 0, .null, []),
  (37, .getfield 7, 40, 17, 0, 0, 704, .null, []),
  (40, .bipush 9, 42, 0, 0, 0, 0, .int (nI 9), []),
  (42, .iaload, 43, 0, 0, 0, 0, .null, []),
  (43, .iload_n 1, 44, 0, 0, 0, 0, .null, []),
  (44, .isub, 45, 0, 0, 0, 0, .null, []),
  (45, .ireturn, 46, 0, 0, 0, 0, .int 0, [])]
def cd144 : List En := [(0, .iload_n 1, 1, 0, 0, 0, 0, .null, []),
  (1, .iconst 0, 2, 0, 0, 0, 0, .int (nI 0), []),
  (2, .iconst 2, 3, 0, 0, 0, 0, .int (nI 2), []),
  (3, .invokestatic 42, 6, 95, 0, 0, 795, .retAddr 3, []),
  (6, .ifCond .ne 6, 9, 12, 0, 0, 0, .null, []),
  (9, .ldc 41, 11, 0, 0, 0, 794, .int ((-1000000001)), []),
  (11, .ireturn, 12, 0, 0, 0, 0, .int 0, []),
  (12, .aload_n 0, 13, 0, 0, 0, 0, .null, []),
  (13, .getfield 7, 16, 17, 0, 0, 704, .null, []),
  (16, .iconst 0, 17, 0, 0, 0, 0, .int (nI 0), []),
  (17, .iaload, 18, 0, 0, 0, 0, .null, []),
  (18, .iconst 2, 19, 0, 0, 0, 0, .int (nI 2), []),
  (19, .if_icmp .ge 6, 22, 25, 0, 0, 0, .null, []),
  (22, .ldc 132, 24, 0, 0, 0, 830, .int ((-1000000002)), []),
  (24, .ireturn, 25, 0, 0, 0, 0, .int 0, []),
  (25, .aload_n 0, 26, 0, 0, 0, 0, .null, []),
  (26, .getfield 7, 29, 17, 0, 0, 704, .null, []),
  (29, .aload_n 0, 30, 0, 0, 0, 0, .null, []),
  (30, .getfield 16, 33, 17, 2, 0, 706, .null, []),
  (33, .invokestatic 46, 36, 97, 1, 0, 783, .retAddr 2, []),
  (36, .aload_n 0, 37, 0, 0, 0, 0, .null, []),
  (37, .invokevirtual 112, 40, 115, 1, 17, 863, .retAddr 1, []),
  (40, .aload_n 0, 41, 0, 0, 0, 0, .null, []),
  (41, .getfield 16, 44, 17, 2, 0, 706, .null, []),
  (44, .aload_n 0, 45, 0, 0, 0, 0, .null, []),
  (45, .getfield 7, 48, 17, 0, 0, 704, .null, []),
  (48, .invokestatic 46, 51, 97, 1, 0, 783, .retAddr 2, []),
  (51, .iload_n 1, 52, 0, 0, 0, 0, .null, []),
  (52, .ifCond .ne 10, 55, 62, 0, 0, 0, .null, []),
  (55, .aload_n 0, 56, 0, 0, 0, 0, .null, []),
  (56, .getfield 83, 59, 17, 13, 0, 717, .int 0, []),
  (59, .goto 19, 62, 78, 0, 0, 0, .null, []),
  (62, .iload_n 1, 63, 0, 0, 0, 0, .null, []),
  (63, .iconst 1, 64, 0, 0, 0, 0, .int (nI 1), []),
  (64, .if_icmp .ne 10, 67, 74, 0, 0, 0, .null, []),
  (67, .aload_n 0, 68, 0, 0, 0, 0, .null, []),
  (68, .getfield 71, 71, 17, 9, 0, 713, .int 0, []),
  (71, .goto 7, 74, 78, 0, 0, 0, .null, []),
  (74, .aload_n 0, 75, 0, 0, 0, 0, .null, []),
  (75, .getfield 68, 78, 17, 8, 0, 712, .int 0, []),
  (78, .ireturn, 79, 0, 0, 0, 0, .int 0, [])]
def cd145_0 : List En := [(0, .iload_n 1, 1, 0, 0, 0, 0, .null, []),
  (1, .iconst 1, 2, 0, 0, 0, 0, .int (nI 1), []),
  (2, .iconst 5, 3, 0, 0, 0, 0, .int (nI 5), []),
  (3, .invokestatic 42, 6, 95, 0, 0, 795, .retAddr 3, []),
  (6, .ifCond .eq 12, 9, 18, 0, 0, 0, .null, []),
  (9, .iload_n 2, 10, 0, 0, 0, 0, .null, []),
  (10, .iconst 0, 11, 0, 0, 0, 0, .int (nI 0), []),
  (11, .iconst 3, 12, 0, 0, 0, 0, .int (nI 3), []),
  (12, .invokestatic 42, 15, 95, 0, 0, 795, .retAddr 3, []),
  (15, .ifCond .ne 6, 18, 21, 0, 0, 0, .null, []),
  (18, .ldc 41, 20, 0, 0, 0, 794, .int ((-1000000001)), []),
  (20, .ireturn, 21, 0, 0, 0, 0, .int 0, []),
  (21, .aload_n 0, 22, 0, 0, 0, 0, .null, []),
  (22, .getfield 7, 25, 17, 0, 0, 704, .null, []),
  (25, .iconst 0, 26, 0, 0, 0, 0, .int (nI 0), []),
  (26, .iaload, 27, 0, 0, 0, 0, .null, []),
  (27, .iconst 2, 28, 0, 0, 0, 0, .int (nI 2), []),
  (28, .if_icmp .ge 6, 31, 34, 0, 0, 0, .null, []),
  (31, .ldc 132, 33, 0, 0, 0, 830, .int ((-1000000002)), []),
  (33, .ireturn, 34, 0, 0, 0, 0, .int 0, []),
  (34, .aload_n 0, 35, 0, 0, 0, 0, .null, []),
  (35, .getfield 7, 38, 17, 0, 0, 704, .null, []),
  (38, .aload_n 0, 39, 0, 0, 0, 0, .null, []),
  (39, .getfield 16, 42, 17, 2, 0, 706, .null, []),
  (42, .invokestatic 46, 45, 97, 1, 0, 783, .retAddr 2, []),
  (45, .aload_n 0, 46, 0, 0, 0, 0, .null, []),
  (46, .iload_n 1, 47, 0, 0, 0, 0, .null, []),
  (47, .invokevirtual 136, 50, 119, 1, 17, 855, .retAddr 2, []),
  (50, .iload_n 2, 51, 0, 0, 0, 0, .null, []),
  (51, .ifCond .ne 19, 54, 70, 0, 0, 0, .null, []),
  (54, .aload_n 0, 55, 0, 0, 0, 0, .null, []),
  (55, .getfield 7, 58, 17, 0, 0, 704, .null, []),
  (58, .iconst 4, 59, 0, 0, 0, 0, .int (nI 4), []),
  (59, .iaload, 60, 0, 0, 0, 0, .null, []),
  (60, .aload_n 0, 61, 0, 0, 0, 0, .null, []),
  (61, .getfield 16, 64, 17, 2, 0, 706, .null, []),
  (64, .iconst 4, 65, 0, 0, 0, 0, .int (nI 4), []),
  (65, .iaload, 66, 0, 0, 0, 0, .null, []),
  (66, .isub, 67, 0, 0, 0, 0, .null, []),
  (67, .goto 58, 70, 125, 0, 0, 0, .null, []),
  (70, .iload_n 2, 71, 0, 0, 0, 0, .null, []),
  (71, .iconst 1, 72, 0, 0, 0, 0, .int (nI 1), []),
  (72, .if_icmp .ne 19, 75, 91, 0, 0, 0, .null, []),
  (75, .aload_n 0, 76, 0, 0, 0, 0, .null, []),
  (76, .getfield 7, 79, 17, 0, 0, 704, .null, []),
  (79, .iconst 5, 80, 0, 0, 0, 0, .int (nI 5), []),
  (80, .iaload, 81, 0, 0, 0, 0, .null, []),
  (81, .aload_n 0, 82, 0, 0, 0, 0, .null, []),
  (82, .getfield 16, 85, 17, 2, 0, 706, .null, []),
  (85, .iconst 5, 86, 0, 0, 0, 0, .int (nI 5), [])]
def cd145_1 : List En := [(86, .iaload, 87, 0, 0, 0, 0, .null, []),
  (87, .isub, 88, 0, 0, 0, 0, .null, []),
  (88, .goto 37, 91, 125, 0, 0, 0, .null, []),
  (91, .iload_n 2, 92, 0, 0, 0, 0, .null, []),
  (92, .iconst 3, 93, 0, 0, 0, 0, .int (nI 3), []),
  (93, .if_icmp .ne 10, 96, 103, 0, 0, 0, .null, []),
  (96, .aload_n 0, 97, 0, 0, 0, 0, .null, []),
  (97, .invokevirtual 162, 100, 109, 2, 17, 905, .retAddr 1, []),
  (100, .goto 25, 103, 125, 0, 0, 0, .null, []),
  (103, .aload_n 0, 104, 0, 0, 0, 0, .null, []),
  (104, .getfield 7, 107, 17, 0, 0, 704, .null, []),
  (107, .bipush 9, 109, 0, 0, 0, 0, .int (nI 9), []),
  (109, .iaload, 110, 0, 0, 0, 0, .null, []),
  (110, .ifCond .ne 8, 113, 118, 0, 0, 0, .null, []),
  (113, .ldc 40, 115, 0, 0, 0, 793, .int ((-1000000004)), []),
  (115, .goto 10, 118, 125, 0, 0, 0, .null, []),
  (118, .aload_n 0, 119, 0, 0, 0, 0, .null, []),
  (119, .getfield 7, 122, 17, 0, 0, 704, .null, []),
  (122, .bipush 9, 124, 0, 0, 0, 0, .int (nI 9), []),
  (124, .iaload, 125, 0, 0, 0, 0, .null, []),
  (125, .istore_n 3, 126, 0, 0, 0, 0, .null, []),
  (126, .aload_n 0, 127, 0, 0, 0, 0, .null, []),
  (127, .getfield 16, 130, 17, 2, 0, 706, .null, []),
  (130, .aload_n 0, 131, 0, 0, 0, 0, .null, []),
  (131, .getfield 7, 134, 17, 0, 0, 704, .null, []),
  (134, .invokestatic 46, 137, 97, 1, 0, 783, .retAddr 2, []),
  (137, .iload_n 3, 138, 0, 0, 0, 0, .null, []),
  (138, .ireturn, 139, 0, 0, 0, 0, .int 0, [])]
def cd145 : List En := cd145_0 ++ (cd145_1)
def cd146 : List En := [(0, .iconst 0, 1, 0, 0, 0, 0, .int (nI 0), []),
  (1, .istore_n 1, 2, 0, 0, 0, 0, .null, []),
  (2, .iconst 0, 3, 0, 0, 0, 0, .int (nI 0), []),
  (3, .istore_n 2, 4, 0, 0, 0, 0, .null, []),
  (4, .iload_n 2, 5, 0, 0, 0, 0, .null, []),
  (5, .aload_n 0, 6, 0, 0, 0, 0, .null, []),
  (6, .getfield 7, 9, 17, 0, 0, 704, .null, []),
  (9, .iconst 1, 10, 0, 0, 0, 0, .int (nI 1), []),
  (10, .iaload, 11, 0, 0, 0, 0, .null, []),
  (11, .if_icmp .ge 30, 14, 41, 0, 0, 0, .null, []),
  (14, .aload_n 0, 15, 0, 0, 0, 0, .null, []),
  (15, .iload_n 2, 16, 0, 0, 0, 0, .null, []),
  (16, .iconst 3, 17, 0, 0, 0, 0, .int (nI 3), []),
  (17, .invokevirtual 58, 20, 102, 0, 17, 826, .retAddr 3, []),
  (20, .iload_n 1, 21, 0, 0, 0, 0, .null, []),
  (21, .if_icmp .le 12, 24, 33, 0, 0, 0, .null, []),
  (24, .aload_n 0, 25, 0, 0, 0, 0, .null, []),
  (25, .iload_n 2, 26, 0, 0, 0, 0, .null, []),
  (26, .iconst 3, 27, 0, 0, 0, 0, .int (nI 3), []),
  (27, .invokevirtual 58, 30, 102, 0, 17, 826, .retAddr 3, []),
  (30, .goto 4, 33, 34, 0, 0, 0, .null, []),
  (33, .iload_n 1, 34, 0, 0, 0, 0, .null, []),
  (34, .istore_n 1, 35, 0, 0, 0, 0, .null, []),
  (35, .iinc 2 1, 38, 0, 0, 0, 0, .null, []),
  (38, .goto (-34), 41, 4, 0, 0, 0, .null, []),
  (41, .iload_n 1, 42, 0, 0, 0, 0, .null, []),
  (42, .ireturn, 43, 0, 0, 0, 0, .int 0, [])]
def cd147 : List En := [(0, .iload_n 1, 1, 0, 0, 0, 0, .null, []),
  (1, .bipush 20, 3, 0, 0, 0, 0, .int (nI 20), []),
  (3, .bipush 26, 5, 0, 0, 0, 0, .int (nI 26), []),
  (5, .invokestatic 42, 8, 95, 0, 0, 795, .retAddr 3, []),
  (8, .ifCond .eq 16, 11, 24, 0, 0, 0, .null, []),
  (11, .aload_n 0, 12, 0, 0, 0, 0, .null, []),
  (12, .getfield 7, 15, 17, 0, 0, 704, .null, []),
  (15, .bipush 13, 17, 0, 0, 0, 0, .int (nI 13), []),
  (17, .iload_n 1, 18, 0, 0, 0, 0, .null, []),
  (18, .iadd, 19, 0, 0, 0, 0, .null, []),
  (19, .bipush 20, 21, 0, 0, 0, 0, .int (nI 20), []),
  (21, .isub, 22, 0, 0, 0, 0, .null, []),
  (22, .iaload, 23, 0, 0, 0, 0, .null, []),
  (23, .ireturn, 24, 0, 0, 0, 0, .int 0, []),
  (24, .iload_n 1, 25, 0, 0, 0, 0, .null, []),
  (25, .tableswitch 130 0 13 #[71, 71, 78, 83, 83, 83, 83, 83, 94, 99, 104, 112, 120, 125], 96, 155, 0, 0, 0, .null, [(nI 0, 96), (nI 1, 96), (nI 2, 103), (nI 3, 108), (nI 4, 108), (nI 5, 108), (nI 6, 108), (nI 7, 108), (nI 8, 119), (nI 9, 124), (nI 10, 129), (nI 11, 137), (nI 12, 145), (nI 13, 150)]),
  (96, .aload_n 0, 97, 0, 0, 0, 0, .null, []),
  (97, .getfield 7, 100, 17, 0, 0, 704, .null, []),
  (100, .iload_n 1, 101, 0, 0, 0, 0, .null, []),
  (101, .iaload, 102, 0, 0, 0, 0, .null, []),
  (102, .ireturn, 103, 0, 0, 0, 0, .int 0, []),
  (103, .aload_n 0, 104, 0, 0, 0, 0, .null, []),
  (104, .invokevirtual 133, 107, 107, 2, 17, 831, .retAddr 1, []),
  (107, .ireturn, 108, 0, 0, 0, 0, .int 0, []),
  (108, .aload_n 0, 109, 0, 0, 0, 0, .null, []),
  (109, .getfield 7, 112, 17, 0, 0, 704, .null, []),
  (112, .iconst 2, 113, 0, 0, 0, 0, .int (nI 2), []),
  (113, .iload_n 1, 114, 0, 0, 0, 0, .null, []),
  (114, .iadd, 115, 0, 0, 0, 0, .null, []),
  (115, .iconst 3, 116, 0, 0, 0, 0, .int (nI 3), []),
  (116, .isub, 117, 0, 0, 0, 0, .null, []),
  (117, .iaload, 118, 0, 0, 0, 0, .null, []),
  (118, .ireturn, 119, 0, 0, 0, 0, .int 0, []),
  (119, .aload_n 0, 120, 0, 0, 0, 0, .null, []),
  (120, .invokevirtual 162, 123, 109, 2, 17, 905, .retAddr 1, []),
  (123, .ireturn, 124, 0, 0, 0, 0, .int 0, []),
  (124, .aload_n 0, 125, 0, 0, 0, 0, .null, []),
  (125, .invokevirtual 192, 128, 146, 2, 17, 994, .retAddr 1, []),
  (128, .ireturn, 129, 0, 0, 0, 0, .int 0, []),
  (129, .aload_n 0, 130, 0, 0, 0, 0, .null, []),
  (130, .getfield 7, 133, 17, 0, 0, 704, .null, []),
  (133, .bipush 7, 135, 0, 0, 0, 0, .int (nI 7), []),
  (135, .iaload, 136, 0, 0, 0, 0, .null, []),
  (136, .ireturn, 137, 0, 0, 0, 0, .int 0, []),
  (137, .aload_n 0, 138, 0, 0, 0, 0, .null, []),
  (138, .getfield 7, 141, 17, 0, 0, 704, .null, []),
  (141, .bipush 8, 143, 0, 0, 0, 0, .int (nI 8), []),
  (143, .iaload, 144, 0, 0, 0, 0, .null, []),
  (144, .ireturn, 145, 0, 0, 0, 0, .int 0, []),
  (145, .aload_n 0, 146, 0, 0, 0, 0, .null, []),
  (146, .getfield 54, 149, 17, 4, 0, 708, .int 0, []),
  (149, .ireturn, 150, 0, 0, 0, 0, .int 0, []),
  (150, .aload_n 0, 151, 0, 0, 0, 0, .null, []),
  (151, .getfield 195, 154, 17, 6, 0, 710, .int 0, []),
  (154, .ireturn, 155, 0, 0, 0, 0, .int 0, []),
  (155, .ldc 41, 157, 0, 0, 0, 794, .int ((-1000000001)), []),
  (157, .ireturn, 158, 0, 0, 0, 0, .int 0, [])]
def cd148 : List En := [(0, .aload_n 0, 1, 0, 0, 0, 0, .null, []),
  (1, .getfield 54, 4, 17, 4, 0, 708, .int 0, []),
  (4, .ifCond .ne 6, 7, 10, 0, 0, 0, .null, []),
  (7, .ldc 132, 9, 0, 0, 0, 830, .int ((-1000000002)), []),
  (9, .ireturn, 10, 0, 0, 0, 0, .int 0, []),
  (10, .aload_n 0, 11, 0, 0, 0, 0, .null, []),
  (11, .dup, 12, 0, 0, 0, 0, .null, []),
  (12, .getfield 54, 15, 17, 4, 0, 708, .int 0, []),
  (15, .iconst 1, 16, 0, 0, 0, 0, .int (nI 1), []),
  (16, .isub, 17, 0, 0, 0, 0, .null, []),
  (17, .putfield 54, 20, 17, 4, 0, 708, .int 0, []),
  (20, .iconst 0, 21, 0, 0, 0, 0, .int (nI 0), []),
  (21, .istore_n 1, 22, 0, 0, 0, 0, .null, []),
  (22, .iload_n 1, 23, 0, 0, 0, 0, .null, []),
  (23, .sipush 146, 26, 0, 0, 0, 0, .int (nI 146), []),
  (26, .if_icmp .ge 30, 29, 56, 0, 0, 0, .null, []),
  (29, .aload_n 0, 30, 0, 0, 0, 0, .null, []),
  (30, .getfield 7, 33, 17, 0, 0, 704, .null, []),
  (33, .iload_n 1, 34, 0, 0, 0, 0, .null, []),
  (34, .aload_n 0, 35, 0, 0, 0, 0, .null, []),
  (35, .getfield 19, 38, 17, 3, 0, 707, .null, []),
  (38, .sipush 146, 41, 0, 0, 0, 0, .int (nI 146), []),
  (41, .aload_n 0, 42, 0, 0, 0, 0, .null, []),
  (42, .getfield 54, 45, 17, 4, 0, 708, .int 0, []),
  (45, .imul, 46, 0, 0, 0, 0, .null, []),
  (46, .iload_n 1, 47, 0, 0, 0, 0, .null, []),
  (47, .iadd, 48, 0, 0, 0, 0, .null, []),
  (48, .iaload, 49, 0, 0, 0, 0, .null, []),
  (49, .iastore, 50, 0, 0, 0, 0, .null, []),
  (50, .iinc 1 1, 53, 0, 0, 0, 0, .null, []),
  (53, .goto (-31), 56, 22, 0, 0, 0, .null, []),
  (56, .aload_n 0, 57, 0, 0, 0, 0, .null, []),
  (57, .getfield 54, 60, 17, 4, 0, 708, .int 0, []),
  (60, .ireturn, 61, 0, 0, 0, 0, .int 0, [])]
def cd149 : List En := [(0, .iload_n 1, 1, 0, 0, 0, 0, .null, []),
  (1, .bipush 32, 3, 0, 0, 0, 0, .int (nI 32), []),
  (3, .bipush 126, 5, 0, 0, 0, 0, .int (nI 126), []),
  (5, .invokestatic 42, 8, 95, 0, 0, 795, .retAddr 3, []),
  (8, .ifCond .ne 6, 11, 14, 0, 0, 0, .null, []),
  (11, .ldc 41, 13, 0, 0, 0, 794, .int ((-1000000001)), []),
  (13, .ireturn, 14, 0, 0, 0, 0, .int 0, []),
  (14, .aload_n 0, 15, 0, 0, 0, 0, .null, []),
  (15, .getfield 195, 18, 17, 6, 0, 710, .int 0, []),
  (18, .bipush 60, 20, 0, 0, 0, 0, .int (nI 60), []),
  (20, .if_icmp .ne 6, 23, 26, 0, 0, 0, .null, []),
  (23, .ldc 128, 25, 0, 0, 0, 778, .int ((-1000000003)), []),
  (25, .ireturn, 26, 0, 0, 0, 0, .int 0, []),
  (26, .aload_n 0, 27, 0, 0, 0, 0, .null, []),
  (27, .getfield 22, 30, 17, 5, 0, 709, .null, []),
  (30, .aload_n 0, 31, 0, 0, 0, 0, .null, []),
  (31, .getfield 195, 34, 17, 6, 0, 710, .int 0, []),
  (34, .iload_n 1, 35, 0, 0, 0, 0, .null, []),
  (35, .iastore, 36, 0, 0, 0, 0, .null, []),
  (36, .aload_n 0, 37, 0, 0, 0, 0, .null, []),
  (37, .dup, 38, 0, 0, 0, 0, .null, []),
  (38, .getfield 195, 41, 17, 6, 0, 710, .int 0, []),
  (41, .iconst 1, 42, 0, 0, 0, 0, .int (nI 1), []),
  (42, .iadd, 43, 0, 0, 0, 0, .null, []),
  (43, .putfield 195, 46, 17, 6, 0, 710, .int 0, []),
  (46, .aload_n 0, 47, 0, 0, 0, 0, .null, []),
  (47, .getfield 195, 50, 17, 6, 0, 710, .int 0, []),
  (50, .ireturn, 51, 0, 0, 0, 0, .int 0, [])]
def cd150 : List En := [(0, .aload_n 0, 1, 0, 0, 0, 0, .null, []),
  (1, .getfield 195, 4, 17, 6, 0, 710, .int 0, []),
  (4, .istore_n 1, 5, 0, 0, 0, 0, .null, []),
  (5, .aload_n 0, 6, 0, 0, 0, 0, .null, []),
  (6, .iconst 0, 7, 0, 0, 0, 0, .int (nI 0), []),
  (7, .putfield 195, 10, 17, 6, 0, 710, .int 0, []),
  (10, .iload_n 1, 11, 0, 0, 0, 0, .null, []),
  (11, .ireturn, 12, 0, 0, 0, 0, .int 0, [])]
def cd151 : List En := [(0, .aload_n 0, 1, 0, 0, 0, 0, .null, []),
  (1, .getfield 198, 4, 17, 17, 0, 721, .int 0, []),
  (4, .aload_n 0, 5, 0, 0, 0, 0, .null, []),
  (5, .getfield 195, 8, 17, 6, 0, 710, .int 0, []),
  (8, .if_icmp .ge 15, 11, 23, 0, 0, 0, .null, []),
  (11, .aload_n 0, 12, 0, 0, 0, 0, .null, []),
  (12, .getfield 22, 15, 17, 5, 0, 709, .null, []),
  (15, .aload_n 0, 16, 0, 0, 0, 0, .null, []),
  (16, .getfield 198, 19, 17, 17, 0, 721, .int 0, []),
  (19, .iaload, 20, 0, 0, 0, 0, .null, []),
  (20, .goto 4, 23, 24, 0, 0, 0, .null, []),
  (23, .iconst (-1), 24, 0, 0, 0, 0, .int ((-1)), []),
  (24, .ireturn, 25, 0, 0, 0, 0, .int 0, [])]
def cd152 : List En := [(0, .aload_n 0, 1, 0, 0, 0, 0, .null, []),
  (1, .aload_n 0, 2, 0, 0, 0, 0, .null, []),
  (2, .getfield 201, 5, 17, 21, 0, 725, .int 1, []),
  (5, .ifCond .eq 11, 8, 16, 0, 0, 0, .null, []),
  (8, .iload_n 1, 9, 0, 0, 0, 0, .null, []),
  (9, .ifCond .eq 7, 12, 16, 0, 0, 0, .null, []),
  (12, .iconst 1, 13, 0, 0, 0, 0, .int (nI 1), []),
  (13, .goto 4, 16, 17, 0, 0, 0, .null, []),
  (16, .iconst 0, 17, 0, 0, 0, 0, .int (nI 0), []),
  (17, .putfield 201, 20, 17, 21, 0, 725, .int 1, []),
  (20, .aload_n 0, 21, 0, 0, 0, 0, .null, []),
  (21, .dup, 22, 0, 0, 0, 0, .null, []),
  (22, .getfield 198, 25, 17, 17, 0, 721, .int 0, []),
  (25, .aload_n 0, 26, 0, 0, 0, 0, .null, []),
  (26, .getfield 201, 29, 17, 21, 0, 725, .int 1, []),
  (29, .ifCond .eq 7, 32, 36, 0, 0, 0, .null, []),
  (32, .iconst 1, 33, 0, 0, 0, 0, .int (nI 1), []),
  (33, .goto 4, 36, 37, 0, 0, 0, .null, []),
  (36, .iconst 0, 37, 0, 0, 0, 0, .int (nI 0), []),
  (37, .iadd, 38, 0, 0, 0, 0, .null, []),
  (38, .putfield 198, 41, 17, 17, 0, 721, .int 0, []),
  (41, .return_, 42, 0, 0, 0, 0, .null, [])]
def cd153 : List En := [(0, .aload_n 0, 1, 0, 0, 0, 0, .null, []),
  (1, .invokevirtual 205, 4, 151, 0, 17, 1018, .retAddr 1, []),
  (4, .bipush 48, 6, 0, 0, 0, 0, .int (nI 48), []),
  (6, .isub, 7, 0, 0, 0, 0, .null, []),
  (7, .istore_n 1, 8, 0, 0, 0, 0, .null, []),
  (8, .aload_n 0, 9, 0, 0, 0, 0, .null, []),
  (9, .aload_n 0, 10, 0, 0, 0, 0, .null, []),
  (10, .invokevirtual 205, 13, 151, 0, 17, 1018, .retAddr 1, []),
  (13, .bipush 48, 15, 0, 0, 0, 0, .int (nI 48), []),
  (15, .bipush 57, 17, 0, 0, 0, 0, .int (nI 57), []),
  (17, .invokestatic 42, 20, 95, 0, 0, 795, .retAddr 3, []),
  (20, .invokevirtual 208, 23, 152, 0, 17, 1029, .retAddr 2, []),
  (23, .iconst 0, 24, 0, 0, 0, 0, .int (nI 0), []),
  (24, .istore_n 2, 25, 0, 0, 0, 0, .null, []),
  (25, .iload_n 2, 26, 0, 0, 0, 0, .null, []),
  (26, .iconst 3, 27, 0, 0, 0, 0, .int (nI 3), []),
  (27, .if_icmp .ge 53, 30, 80, 0, 0, 0, .null, []),
  (30, .aload_n 0, 31, 0, 0, 0, 0, .null, []),
  (31, .getfield 201, 34, 17, 21, 0, 725, .int 1, []),
  (34, .ifCond .eq 40, 37, 74, 0, 0, 0, .null, []),
  (37, .aload_n 0, 38, 0, 0, 0, 0, .null, []),
  (38, .invokevirtual 205, 41, 151, 0, 17, 1018, .retAddr 1, []),
  (41, .bipush 48, 43, 0, 0, 0, 0, .int (nI 48), []),
  (43, .bipush 57, 45, 0, 0, 0, 0, .int (nI 57), []),
  (45, .invokestatic 42, 48, 95, 0, 0, 795, .retAddr 3, []),
  (48, .ifCond .eq 26, 51, 74, 0, 0, 0, .null, []),
  (51, .bipush 10, 53, 0, 0, 0, 0, .int (nI 10), []),
  (53, .iload_n 1, 54, 0, 0, 0, 0, .null, []),
  (54, .imul, 55, 0, 0, 0, 0, .null, []),
  (55, .aload_n 0, 56, 0, 0, 0, 0, .null, []),
  (56, .invokevirtual 205, 59, 151, 0, 17, 1018, .retAddr 1, []),
  (59, .iadd, 60, 0, 0, 0, 0, .null, []),
  (60, .bipush 48, 62, 0, 0, 0, 0, .int (nI 48), []),
  (62, .isub, 63, 0, 0, 0, 0, .null, []),
  (63, .istore_n 1, 64, 0, 0, 0, 0, .null, []),
  (64, .aload_n 0, 65, 0, 0, 0, 0, .null, []),
  (65, .dup, 66, 0, 0, 0, 0, .null, []),
  (66, .getfield 198, 69, 17, 17, 0, 721, .int 0, []),
  (69, .iconst 1, 70, 0, 0, 0, 0, .int (nI 1), []),
  (70, .iadd, 71, 0, 0, 0, 0, .null, []),
  (71, .putfield 198, 74, 17, 17, 0, 721, .int 0, []),
  (74, .iinc 2 1, 77, 0, 0, 0, 0, .null, []),
  (77, .goto (-52), 80, 25, 0, 0, 0, .null, []),
  (80, .iload_n 1, 81, 0, 0, 0, 0, .null, []),
  (81, .ireturn, 82, 0, 0, 0, 0, .int 0, [])]
def cd154 : List En := [(0, .iload_n 0, 1, 0, 0, 0, 0, .null, []),
  (1, .tableswitch 89 99 115 #[87, 89, 89, 87, 89, 89, 89, 89, 89, 87, 89, 89, 87, 83, 89, 89, 85], 84, 90, 0, 0, 0, .null, [(nI 99, 88), (nI 100, 90), (nI 101, 90), (nI 102, 88), (nI 103, 90), (nI 104, 90), (nI 105, 90), (nI 106, 90), (nI 107, 90), (nI 108, 88), (nI 109, 90), (nI 110, 90), (nI 111, 88), (nI 112, 84), (nI 113, 90), (nI 114, 90), (nI 115, 86)]),
  (84, .iconst 3, 85, 0, 0, 0, 0, .int (nI 3), []),
  (85, .ireturn, 86, 0, 0, 0, 0, .int 0, []),
  (86, .iconst 2, 87, 0, 0, 0, 0, .int (nI 2), []),
  (87, .ireturn, 88, 0, 0, 0, 0, .int 0, []),
  (88, .iconst 1, 89, 0, 0, 0, 0, .int (nI 1), []),
  (89, .ireturn, 90, 0, 0, 0, 0, .int 0, []),
  (90, .iconst 0, 91, 0, 0, 0, 0, .int (nI 0), []),
  (91, .ireturn, 92, 0, 0, 0, 0, .int 0, [])]
def cd155 : List En := [(0, .iload_n 1, 1, 0, 0, 0, 0, .null, []),
  (1, .invokestatic 212, 4, 154, 0, 0, 1026, .retAddr 1, []),
  (4, .istore_n 2, 5, 0, 0, 0, 0, .null, []),
  (5, .aload_n 0, 6, 0, 0, 0, 0, .null, []),
  (6, .iload_n 2, 7, 0, 0, 0, 0, .null, []),
  (7, .ifCond .le 7, 10, 14, 0, 0, 0, .null, []),
  (10, .iconst 1, 11, 0, 0, 0, 0, .int (nI 1), []),
  (11, .goto 4, 14, 15, 0, 0, 0, .null, []),
  (14, .iconst 0, 15, 0, 0, 0, 0, .int (nI 0), []),
  (15, .invokevirtual 208, 18, 152, 0, 17, 1029, .retAddr 2, []),
  (18, .iconst 0, 19, 0, 0, 0, 0, .int (nI 0), []),
  (19, .istore_n 3, 20, 0, 0, 0, 0, .null, []),
  (20, .iload_n 3, 21, 0, 0, 0, 0, .null, []),
  (21, .iload_n 2, 22, 0, 0, 0, 0, .null, []),
  (22, .if_icmp .ge 41, 25, 63, 0, 0, 0, .null, []),
  (25, .iload_n 3, 26, 0, 0, 0, 0, .null, []),
  (26, .ifCond .le 21, 29, 47, 0, 0, 0, .null, []),
  (29, .aload_n 0, 30, 0, 0, 0, 0, .null, []),
  (30, .aload_n 0, 31, 0, 0, 0, 0, .null, []),
  (31, .invokevirtual 205, 34, 151, 0, 17, 1018, .retAddr 1, []),
  (34, .bipush 44, 36, 0, 0, 0, 0, .int (nI 44), []),
  (36, .if_icmp .ne 7, 39, 43, 0, 0, 0, .null, []),
  (39, .iconst 1, 40, 0, 0, 0, 0, .int (nI 1), []),
  (40, .goto 4, 43, 44, 0, 0, 0, .null, []),
  (43, .iconst 0, 44, 0, 0, 0, 0, .int (nI 0), []),
  (44, .invokevirtual 208, 47, 152, 0, 17, 1029, .retAddr 2, []),
  (47, .aload_n 0, 48, 0, 0, 0, 0, .null, []),
  (48, .getfield 37, 51, 17, 22, 0, 726, .null, []),
  (51, .iload_n 3, 52, 0, 0, 0, 0, .null, []),
  (52, .aload_n 0, 53, 0, 0, 0, 0, .null, []),
  (53, .invokevirtual 215, 56, 153, 2, 17, 1033, .retAddr 1, []),
  (56, .iastore, 57, 0, 0, 0, 0, .null, []),
  (57, .iinc 3 1, 60, 0, 0, 0, 0, .null, []),
  (60, .goto (-40), 63, 20, 0, 0, 0, .null, []),
  (63, .aload_n 0, 64, 0, 0, 0, 0, .null, []),
  (64, .aload_n 0, 65, 0, 0, 0, 0, .null, []),
  (65, .invokevirtual 205, 68, 151, 0, 17, 1018, .retAddr 1, []),
  (68, .bipush 59, 70, 0, 0, 0, 0, .int (nI 59), []),
  (70, .if_icmp .ne 7, 73, 77, 0, 0, 0, .null, []),
  (73, .iconst 1, 74, 0, 0, 0, 0, .int (nI 1), []),
  (74, .goto 4, 77, 78, 0, 0, 0, .null, []),
  (77, .iconst 0, 78, 0, 0, 0, 0, .int (nI 0), []),
  (78, .invokevirtual 208, 81, 152, 0, 17, 1029, .retAddr 2, []),
  (81, .return_, 82, 0, 0, 0, 0, .null, [])]
def cd156 : List En := [(0, .iload_n 1, 1, 0, 0, 0, 0, .null, []),
  (1, .lookupswitch 126 #[(99, 74), (102, 98), (111, 86), (112, 51), (115, 109)], 52, 127, 0, 0, 0, .null, [(nI 99, 75), (nI 102, 99), (nI 111, 87), (nI 112, 52), (nI 115, 110)]),
  (52, .aload_n 0, 53, 0, 0, 0, 0, .null, []),
  (53, .aload_n 0, 54, 0, 0, 0, 0, .null, []),
  (54, .getfield 37, 57, 17, 22, 0, 726, .null, []),
  (57, .iconst 0, 58, 0, 0, 0, 0, .int (nI 0), []),
  (58, .iaload, 59, 0, 0, 0, 0, .null, []),
  (59, .aload_n 0, 60, 0, 0, 0, 0, .null, []),
  (60, .getfield 37, 63, 17, 22, 0, 726, .null, []),
  (63, .iconst 1, 64, 0, 0, 0, 0, .int (nI 1), []),
  (64, .iaload, 65, 0, 0, 0, 0, .null, []),
  (65, .aload_n 0, 66, 0, 0, 0, 0, .null, []),
  (66, .getfield 37, 69, 17, 22, 0, 726, .null, []),
  (69, .iconst 2, 70, 0, 0, 0, 0, .int (nI 2), []),
  (70, .iaload, 71, 0, 0, 0, 0, .null, []),
  (71, .invokevirtual 149, 74, 120, 1, 17, 802, .retAddr 4, []),
  (74, .ireturn, 75, 0, 0, 0, 0, .int 0, []),
  (75, .aload_n 0, 76, 0, 0, 0, 0, .null, []),
  (76, .aload_n 0, 77, 0, 0, 0, 0, .null, []),
  (77, .getfield 37, 80, 17, 22, 0, 726, .null, []),
  (80, .iconst 0, 81, 0, 0, 0, 0, .int (nI 0), []),
  (81, .iaload, 82, 0, 0, 0, 0, .null, []),
  (82, .iconst 1, 83, 0, 0, 0, 0, .int (nI 1), []),
  (83, .invokevirtual 153, 86, 121, 0, 17, 818, .retAddr 3, []),
  (86, .ireturn, 87, 0, 0, 0, 0, .int 0, []),
  (87, .aload_n 0, 88, 0, 0, 0, 0, .null, []),
  (88, .aload_n 0, 89, 0, 0, 0, 0, .null, []),
  (89, .getfield 37, 92, 17, 22, 0, 726, .null, []),
  (92, .iconst 0, 93, 0, 0, 0, 0, .int (nI 0), []),
  (93, .iaload, 94, 0, 0, 0, 0, .null, []),
  (94, .iconst 0, 95, 0, 0, 0, 0, .int (nI 0), []),
  (95, .invokevirtual 153, 98, 121, 0, 17, 818, .retAddr 3, []),
  (98, .ireturn, 99, 0, 0, 0, 0, .int 0, []),
  (99, .aload_n 0, 100, 0, 0, 0, 0, .null, []),
  (100, .aload_n 0, 101, 0, 0, 0, 0, .null, []),
  (101, .getfield 37, 104, 17, 22, 0, 726, .null, []),
  (104, .iconst 0, 105, 0, 0, 0, 0, .int (nI 0), []),
  (105, .iaload, 106, 0, 0, 0, 0, .null, []),
  (106, .invokevirtual 156, 109, 122, 1, 17, 843, .retAddr 2, []),
  (109, .ireturn, 110, 0, 0, 0, 0, .int 0, []),
  (110, .aload_n 0, 111, 0, 0, 0, 0, .null, []),
  (111, .aload_n 0, 112, 0, 0, 0, 0, .null, []),
  (112, .getfield 37, 115, 17, 22, 0, 726, .null, []),
  (115, .iconst 0, 116, 0, 0, 0, 0, .int (nI 0), []),
  (116, .iaload, 117, 0, 0, 0, 0, .null, []),
  (117, .aload_n 0, 118, 0, 0, 0, 0, .null, []),
  (118, .getfield 37, 121, 17, 22, 0, 726, .null, []),
  (121, .iconst 1, 122, 0, 0, 0, 0, .int (nI 1), []),
  (122, .iaload, 123, 0, 0, 0, 0, .null, []),
  (123, .invokevirtual 165, 126, 125, 1, 17, 913, .retAddr 3, []),
  (126, .ireturn, 127, 0, 0, 0, 0, .int 0, []),
  (127, .aload_n 0, 128, 0, 0, 0, 0, .null, []),
  (128, .aload_n 0, 129, 0, 0, 0, 0, .null, []),
  (129, .getfield 37, 132, 17, 22, 0, 726, .null, []),
  (132, .iconst 0, 133, 0, 0, 0, 0, .int (nI 0), []),
  (133, .iaload, 134, 0, 0, 0, 0, .null, []),
  (134, .invokevirtual 159, 137, 123, 1, 17, 851, .retAddr 2, []),
  (137, .ireturn, 138, 0, 0, 0, 0, .int 0, [])]
def cd157 : List En := [(0, .aload_n 0, 1, 0, 0, 0, 0, .null, []),
  (1, .iconst 0, 2, 0, 0, 0, 0, .int (nI 0), []),
  (2, .putfield 198, 5, 17, 17, 0, 721, .int 0, []),
  (5, .aload_n 0, 6, 0, 0, 0, 0, .null, []),
  (6, .iconst 0, 7, 0, 0, 0, 0, .int (nI 0), []),
  (7, .putfield 218, 10, 17, 19, 0, 723, .int 0, []),
  (10, .aload_n 0, 11, 0, 0, 0, 0, .null, []),
  (11, .getfield 198, 14, 17, 17, 0, 721, .int 0, []),
  (14, .aload_n 0, 15, 0, 0, 0, 0, .null, []),
  (15, .getfield 195, 18, 17, 6, 0, 710, .int 0, []),
  (18, .if_icmp .ge 72, 21, 90, 0, 0, 0, .null, []),
  (21, .aload_n 0, 22, 0, 0, 0, 0, .null, []),
  (22, .aload_n 0, 23, 0, 0, 0, 0, .null, []),
  (23, .getfield 198, 26, 17, 17, 0, 721, .int 0, []),
  (26, .putfield 221, 29, 17, 18, 0, 722, .int 0, []),
  (29, .aload_n 0, 30, 0, 0, 0, 0, .null, []),
  (30, .invokevirtual 205, 33, 151, 0, 17, 1018, .retAddr 1, []),
  (33, .istore_n 1, 34, 0, 0, 0, 0, .null, []),
  (34, .aload_n 0, 35, 0, 0, 0, 0, .null, []),
  (35, .iconst 1, 36, 0, 0, 0, 0, .int (nI 1), []),
  (36, .putfield 201, 39, 17, 21, 0, 725, .int 1, []),
  (39, .aload_n 0, 40, 0, 0, 0, 0, .null, []),
  (40, .iload_n 1, 41, 0, 0, 0, 0, .null, []),
  (41, .invokevirtual 224, 44, 155, 2, 17, 1022, .retAddr 2, []),
  (44, .aload_n 0, 45, 0, 0, 0, 0, .null, []),
  (45, .aload_n 0, 46, 0, 0, 0, 0, .null, []),
  (46, .getfield 201, 49, 17, 21, 0, 725, .int 1, []),
  (49, .ifCond .eq 11, 52, 60, 0, 0, 0, .null, []),
  (52, .aload_n 0, 53, 0, 0, 0, 0, .null, []),
  (53, .iload_n 1, 54, 0, 0, 0, 0, .null, []),
  (54, .invokevirtual 227, 57, 156, 0, 17, 1037, .retAddr 2, []),
  (57, .goto 5, 60, 62, 0, 0, 0, .null, []),
  (60, .ldc 40, 62, 0, 0, 0, 793, .int ((-1000000004)), []),
  (62, .putfield 230, 65, 17, 20, 0, 724, .int 0, []),
  (65, .aload_n 0, 66, 0, 0, 0, 0, .null, []),
  (66, .getfield 230, 69, 17, 20, 0, 724, .int 0, []),
  (69, .invokestatic 50, 72, 96, 0, 0, 790, .retAddr 1, []),
  (72, .ifCond .eq 5, 75, 77, 0, 0, 0, .null, []),
  (75, .iconst 0, 76, 0, 0, 0, 0, .int (nI 0), []),
  (76, .ireturn, 77, 0, 0, 0, 0, .int 1, []),
  (77, .aload_n 0, 78, 0, 0, 0, 0, .null, []),
  (78, .dup, 79, 0, 0, 0, 0, .null, []),
  (79, .getfield 218, 82, 17, 19, 0, 723, .int 0, []),
  (82, .iconst 1, 83, 0, 0, 0, 0, .int (nI 1), []),
  (83, .iadd, 84, 0, 0, 0, 0, .null, []),
  (84, .putfield 218, 87, 17, 19, 0, 723, .int 0, []),
  (87, .goto (-77), 90, 10, 0, 0, 0, .null, []),
  (90, .iconst 1, 91, 0, 0, 0, 0, .int (nI 1), []),
  (91, .ireturn, 92, 0, 0, 0, 0, .int 1, [])]
def cd158 : List En := [(0, .iload_n 1, 1, 0, 0, 0, 0, .null, []),
  (1, .iconst 0, 2, 0, 0, 0, 0, .int (nI 0), []),
  (2, .iconst 2, 3, 0, 0, 0, 0, .int (nI 2), []),
  (3, .invokestatic 42, 6, 95, 0, 0, 795, .retAddr 3, []),
  (6, .ifCond .ne 6, 9, 12, 0, 0, 0, .null, []),
  (9, .ldc 41, 11, 0, 0, 0, 794, .int ((-1000000001)), []),
  (11, .ireturn, 12, 0, 0, 0, 0, .int 0, []),
  (12, .aload_n 0, 13, 0, 0, 0, 0, .null, []),
  (13, .invokevirtual 143, 16, 98, 0, 17, 779, .retAddr 1, []),
  (16, .aload_n 0, 17, 0, 0, 0, 0, .null, []),
  (17, .invokevirtual 233, 20, 157, 1, 17, 1014, .retAddr 1, []),
  (20, .istore_n 2, 21, 0, 0, 0, 0, .null, []),
  (21, .aload_n 0, 22, 0, 0, 0, 0, .null, []),
  (22, .getfield 13, 25, 17, 1, 0, 705, .null, []),
  (25, .aload_n 0, 26, 0, 0, 0, 0, .null, []),
  (26, .getfield 7, 29, 17, 0, 0, 704, .null, []),
  (29, .invokestatic 46, 32, 97, 1, 0, 783, .retAddr 2, []),
  (32, .iload_n 2, 33, 0, 0, 0, 0, .null, []),
  (33, .ifCond .eq 6, 36, 39, 0, 0, 0, .null, []),
  (36, .ldc 40, 38, 0, 0, 0, 793, .int ((-1000000004)), []),
  (38, .ireturn, 39, 0, 0, 0, 0, .int 0, []),
  (39, .iload_n 1, 40, 0, 0, 0, 0, .null, []),
  (40, .ifCond .ne 10, 43, 50, 0, 0, 0, .null, []),
  (43, .aload_n 0, 44, 0, 0, 0, 0, .null, []),
  (44, .getfield 221, 47, 17, 18, 0, 722, .int 0, []),
  (47, .goto 46, 50, 93, 0, 0, 0, .null, []),
  (50, .iload_n 1, 51, 0, 0, 0, 0, .null, []),
  (51, .iconst 1, 52, 0, 0, 0, 0, .int (nI 1), []),
  (52, .if_icmp .ne 18, 55, 70, 0, 0, 0, .null, []),
  (55, .aload_n 0, 56, 0, 0, 0, 0, .null, []),
  (56, .getfield 201, 59, 17, 21, 0, 725, .int 1, []),
  (59, .ifCond .eq 7, 62, 66, 0, 0, 0, .null, []),
  (62, .iconst 2, 63, 0, 0, 0, 0, .int (nI 2), []),
  (63, .goto 30, 66, 93, 0, 0, 0, .null, []),
  (66, .iconst 1, 67, 0, 0, 0, 0, .int (nI 1), []),
  (67, .goto 26, 70, 93, 0, 0, 0, .null, []),
  (70, .aload_n 0, 71, 0, 0, 0, 0, .null, []),
  (71, .getfield 201, 74, 17, 21, 0, 725, .int 1, []),
  (74, .ifCond .eq 10, 77, 84, 0, 0, 0, .null, []),
  (77, .aload_n 0, 78, 0, 0, 0, 0, .null, []),
  (78, .getfield 230, 81, 17, 20, 0, 724, .int 0, []),
  (81, .goto 12, 84, 93, 0, 0, 0, .null, []),
  (84, .aload_n 0, 85, 0, 0, 0, 0, .null, []),
  (85, .getfield 198, 88, 17, 17, 0, 721, .int 0, []),
  (88, .aload_n 0, 89, 0, 0, 0, 0, .null, []),
  (89, .getfield 221, 92, 17, 18, 0, 722, .int 0, []),
  (92, .isub, 93, 0, 0, 0, 0, .null, []),
  (93, .ireturn, 94, 0, 0, 0, 0, .int 0, [])]
def cd159 : List En := [(0, .aload_n 0, 1, 0, 0, 0, 0, .null, []),
  (1, .invokevirtual 143, 4, 98, 0, 17, 779, .retAddr 1, []),
  (4, .aload_n 0, 5, 0, 0, 0, 0, .null, []),
  (5, .aload_n 0, 6, 0, 0, 0, 0, .null, []),
  (6, .invokevirtual 233, 9, 157, 1, 17, 1014, .retAddr 1, []),
  (9, .ifCond .eq 10, 12, 19, 0, 0, 0, .null, []),
  (12, .aload_n 0, 13, 0, 0, 0, 0, .null, []),
  (13, .getfield 218, 16, 17, 19, 0, 723, .int 0, []),
  (16, .goto 5, 19, 21, 0, 0, 0, .null, []),
  (19, .ldc 132, 21, 0, 0, 0, 830, .int ((-1000000002)), []),
  (21, .invokevirtual 146, 24, 99, 1, 17, 786, .retAddr 2, []),
  (24, .ireturn, 25, 0, 0, 0, 0, .int 0, [])]
def cd160 : List En := [(0, .fload_n 0, 1, 0, 0, 0, 0, .null, []),
  (1, .fload_n 0, 2, 0, 0, 0, 0, .null, []),
  (2, .fcmp .l, 3, 0, 0, 0, 0, .null, []),
  (3, .ifCond .eq 7, 6, 10, 0, 0, 0, .null, []),
  (6, .iconst 1, 7, 0, 0, 0, 0, .int (nI 1), []),
  (7, .goto 4, 10, 11, 0, 0, 0, .null, []),
  (10, .iconst 0, 11, 0, 0, 0, 0, .int (nI 0), []),
  (11, .ireturn, 12, 0, 0, 0, 0, .int 1, [])]
def cd161 : List En := [(0, .fload_n 0, 1, 0, 0, 0, 0, .null, []),
  (1, .invokestatic 59, 4, 160, 0, 0, 959, .retAddr 1, []),
  (4, .ifCond .ne 8, 7, 12, 0, 0, 0, .null, []),
  (7, .fload_n 0, 8, 0, 0, 0, 0, .null, []),
  (8, .invokestatic 74, 11, 903, 0, 3, 962, .null, []),
  (11, .ireturn, 12, 0, 0, 0, 0, .int 0, []),
  (12, .ldc 77, 14, 0, 0, 0, 965, .int (nI 2143289344), []),
  (14, .ireturn, 15, 0, 0, 0, 0, .int 0, [])]
def mC : Nat → List En := fun m => match m with
  | 0 => cd0
  | 1 => cd1
  | 2 => cd2
  | 3 => cd3
  | 4 => cd4
  | 5 => cd5
  | 6 => cd6
  | 7 => cd7
  | 8 => cd8
  | 9 => cd9
  | 10 => cd10
  | 11 => cd11
  | 12 => cd12
  | 13 => cd13
  | 14 => cd14
  | 15 => cd15
  | 16 => cd16
  | 17 => cd17
  | 18 => cd18
  | 19 => cd19
  | 20 => cd20
  | 21 => cd21
  | 22 => cd22
  | 23 => cd23
  | 24 => cd24
  | 25 => cd25
  | 26 => cd26
  | 27 => cd27
  | 28 => cd28
  | 29 => cd29
  | 30 => cd30
  | 31 => cd31
  | 32 => cd32
  | 33 => cd33
  | 34 => cd34
  | 35 => cd35
  | 36 => cd36
  | 37 => cd37
  | 38 => cd38
  | 39 => cd39
  | 40 => cd40
  | 41 => cd41
  | 42 => cd42
  | 43 => cd43
  | 44 => cd44
  | 45 => cd45
  | 46 => cd46
  | 47 => cd47
  | 48 => cd48
  | 49 => cd49
  | 50 => cd50
  | 51 => cd51
  | 52 => cd52
  | 53 => cd53
  | 54 => cd54
  | 55 => cd55
  | 56 => cd56
  | 57 => cd57
  | 58 => cd58
  | 59 => cd59
  | 60 => cd60
  | 61 => cd61
  | 62 => cd62
  | 63 => cd63
  | 64 => cd64
  | 65 => cd65
  | 66 => cd66
  | 67 => cd67
  | 68 => cd68
  | 69 => cd69
  | 70 => cd70
  | 71 => cd71
  | 72 => cd72
  | 73 => cd73
  | 74 => cd74
  | 75 => cd75
  | 76 => cd76
  | 77 => cd77
  | 78 => cd78
  | 79 => cd79
  | 80 => cd80
  | 81 => cd81
  | 82 => cd82
  | 83 => cd83
  | 84 => cd84
  | 85 => cd85
  | 86 => cd86
  | 87 => cd87
  | 88 => cd88
  | 89 => cd89
  | 90 => cd90
  | 91 => cd91
  | 92 => cd92
  | 93 => cd93
  | 94 => cd94
  | 95 => cd95
  | 96 => cd96
  | 97 => cd97
  | 98 => cd98
  | 99 => cd99
  | 100 => cd100
  | 101 => cd101
  | 102 => cd102
  | 103 => cd103
  | 104 => cd104
  | 105 => cd105
  | 106 => cd106
  | 107 => cd107
  | 108 => cd108
  | 109 => cd109
  | 110 => cd110
  | 111 => cd111
  | 112 => cd112
  | 113 => cd113
  | 114 => cd114
  | 115 => cd115
  | 116 => cd116
  | 117 => cd117
  | 118 => cd118
  | 119 => cd119
  | 120 => cd120
  | 121 => cd121
  | 122 => cd122
  | 123 => cd123
  | 124 => cd124
  | 125 => cd125
  | 126 => cd126
  | 127 => cd127
  | 128 => cd128
  | 129 => cd129
  | 130 => cd130
  | 131 => cd131
  | 132 => cd132
  | 133 => cd133
  | 134 => cd134
  | 135 => cd135
  | 136 => cd136
  | 137 => cd137
  | 138 => cd138
  | 139 => cd139
  | 140 => cd140
  | 141 => cd141
  | 142 => cd142
  | 143 => cd143
  | 144 => cd144
  | 145 => cd145
  | 146 => cd146
  | 147 => cd147
  | 148 => cd148
  | 149 => cd149
  | 150 => cd150
  | 151 => cd151
  | 152 => cd152
  | 153 => cd153
  | 154 => cd154
  | 155 => cd155
  | 156 => cd156
  | 157 => cd157
  | 158 => cd158
  | 159 => cd159
  | 160 => cd160
  | 161 => cd161
  | _ => []
end
section
theorem mt0 {c : Cond} (h : c ∈ k2_sels lw_privs) : c ∈ lw_tbl := List.mem_append_left _ h
theorem mt1 {c : Cond} (h : c ∈ tables_1_1) : c ∈ lw_tbl := List.mem_append_right _ (List.mem_append_left _ h)
theorem mt2 {c : Cond} (h : c ∈ tables_1_2) : c ∈ lw_tbl := List.mem_append_right _ (List.mem_append_right _ (List.mem_append_left _ h))
theorem mt3 {c : Cond} (h : c ∈ tables_1_3) : c ∈ lw_tbl := List.mem_append_right _ (List.mem_append_right _ (List.mem_append_right _ (List.mem_append_left _ h)))
theorem mt4 {c : Cond} (h : c ∈ tables_1_4) : c ∈ lw_tbl := List.mem_append_right _ (List.mem_append_right _ (List.mem_append_right _ (List.mem_append_right _ (List.mem_append_left _ h))))
theorem mt5 {c : Cond} (h : c ∈ tables_1_5) : c ∈ lw_tbl := List.mem_append_right _ (List.mem_append_right _ (List.mem_append_right _ (List.mem_append_right _ (List.mem_append_right _ (h)))))
set_option maxRecDepth 100000 in
theorem wd_0 : Cond.selects "AntTrails$History" ⟨"AntTrails$History", "dropOldest", "()V"⟩ ⟨"AntTrails$History", "dropOldest", "()V"⟩ ∈ lw_tbl := mt0 (List.mem_of_getElem? (i := 0) rfl)
set_option maxRecDepth 100000 in
theorem wd_1 : Cond.selects "AntTrails$Colony" ⟨"AntTrails$Colony", "clearLaid", "()V"⟩ ⟨"AntTrails$Colony", "clearLaid", "()V"⟩ ∈ lw_tbl := mt0 (List.mem_of_getElem? (i := 1) rfl)
set_option maxRecDepth 100000 in
theorem wd_2 : Cond.selects "AntTrails$Colony" ⟨"AntTrails$Colony", "lookAhead", "(LAntTrails$Ground;)I"⟩ ⟨"AntTrails$Colony", "lookAhead", "(LAntTrails$Ground;)I"⟩ ∈ lw_tbl := mt0 (List.mem_of_getElem? (i := 2) rfl)
set_option maxRecDepth 100000 in
theorem wd_3 : Cond.selects "AntTrails$Colony" ⟨"AntTrails$Colony", "pathAhead", "(LAntTrails$Ground;I)I"⟩ ⟨"AntTrails$Colony", "pathAhead", "(LAntTrails$Ground;I)I"⟩ ∈ lw_tbl := mt0 (List.mem_of_getElem? (i := 3) rfl)
set_option maxRecDepth 100000 in
theorem wd_4 : Cond.selects "AntTrails$Colony" ⟨"AntTrails$Colony", "layTrail", "(I)V"⟩ ⟨"AntTrails$Colony", "layTrail", "(I)V"⟩ ∈ lw_tbl := mt0 (List.mem_of_getElem? (i := 4) rfl)
set_option maxRecDepth 100000 in
theorem wd_5 : Cond.selects "AntTrails$Survey" ⟨"AntTrails$Survey", "shorten", "(LAntTrails$Ground;I)V"⟩ ⟨"AntTrails$Survey", "shorten", "(LAntTrails$Ground;I)V"⟩ ∈ lw_tbl := mt0 (List.mem_of_getElem? (i := 5) rfl)
set_option maxRecDepth 100000 in
theorem wd_6 : Cond.selects "AntTrails$Survey" ⟨"AntTrails$Survey", "greatestAhead", "(LAntTrails$Ground;)I"⟩ ⟨"AntTrails$Survey", "greatestAhead", "(LAntTrails$Ground;)I"⟩ ∈ lw_tbl := mt0 (List.mem_of_getElem? (i := 6) rfl)
set_option maxRecDepth 100000 in
theorem wd_7 : Cond.selects "AntTrails$Orders" ⟨"AntTrails$Orders", "read", "(I)Z"⟩ ⟨"AntTrails$Orders", "read", "(I)Z"⟩ ∈ lw_tbl := mt0 (List.mem_of_getElem? (i := 7) rfl)
set_option maxRecDepth 100000 in
theorem wd_8 : Cond.selects "AntTrails$Orders" ⟨"AntTrails$Orders", "signHere", "()C"⟩ ⟨"AntTrails$Orders", "signHere", "()C"⟩ ∈ lw_tbl := mt0 (List.mem_of_getElem? (i := 8) rfl)
set_option maxRecDepth 100000 in
theorem wd_9 : Cond.selects "AntTrails$Orders" ⟨"AntTrails$Orders", "skip", "(C)Z"⟩ ⟨"AntTrails$Orders", "skip", "(C)Z"⟩ ∈ lw_tbl := mt0 (List.mem_of_getElem? (i := 9) rfl)
set_option maxRecDepth 100000 in
theorem wd_10 : Cond.selects "AntTrails$Orders" ⟨"AntTrails$Orders", "readNumber", "(I)Z"⟩ ⟨"AntTrails$Orders", "readNumber", "(I)Z"⟩ ∈ lw_tbl := mt0 (List.mem_of_getElem? (i := 10) rfl)
set_option maxRecDepth 100000 in
theorem wd_11 : Cond.selects "AntTrails$Orders" ⟨"AntTrails$Orders", "noteFault", "(III)V"⟩ ⟨"AntTrails$Orders", "noteFault", "(III)V"⟩ ∈ lw_tbl := mt0 (List.mem_of_getElem? (i := 11) rfl)
set_option maxRecDepth 100000 in
theorem wd_12 : Cond.selects "AntTrails$Orders" ⟨"AntTrails$Orders", "carryOutOne", "(LAntTrails$Ground;LAntTrails$Colony;)I"⟩ ⟨"AntTrails$Orders", "carryOutOne", "(LAntTrails$Ground;LAntTrails$Colony;)I"⟩ ∈ lw_tbl := mt0 (List.mem_of_getElem? (i := 12) rfl)
set_option maxRecDepth 100000 in
theorem wd_13 : Cond.selects "AntTrailsModel" ⟨"AntTrailsModel", "begins", "()V"⟩ ⟨"AntTrailsModel", "begins", "()V"⟩ ∈ lw_tbl := mt0 (List.mem_of_getElem? (i := 13) rfl)
set_option maxRecDepth 100000 in
theorem wd_14 : Cond.selects "AntTrailsModel" ⟨"AntTrailsModel", "acted", "(I)I"⟩ ⟨"AntTrailsModel", "acted", "(I)I"⟩ ∈ lw_tbl := mt0 (List.mem_of_getElem? (i := 14) rfl)
set_option maxRecDepth 100000 in
theorem wd_15 : Cond.selects "AntTrailsModel" ⟨"AntTrailsModel", "goPath", "(III)I"⟩ ⟨"AntTrailsModel", "goPath", "(III)I"⟩ ∈ lw_tbl := mt0 (List.mem_of_getElem? (i := 15) rfl)
set_option maxRecDepth 100000 in
theorem wd_16 : Cond.selects "AntTrailsModel" ⟨"AntTrailsModel", "isPlace", "(I)Z"⟩ ⟨"AntTrailsModel", "isPlace", "(I)Z"⟩ ∈ lw_tbl := mt0 (List.mem_of_getElem? (i := 16) rfl)
set_option maxRecDepth 100000 in
theorem wd_17 : Cond.selects "AntTrailsModel" ⟨"AntTrailsModel", "lays", "(III)V"⟩ ⟨"AntTrailsModel", "lays", "(III)V"⟩ ∈ lw_tbl := mt0 (List.mem_of_getElem? (i := 17) rfl)
set_option maxRecDepth 100000 in
theorem wd_18 : Cond.selects "AntTrailsModel" ⟨"AntTrailsModel", "goClose", "(II)I"⟩ ⟨"AntTrailsModel", "goClose", "(II)I"⟩ ∈ lw_tbl := mt0 (List.mem_of_getElem? (i := 18) rfl)
set_option maxRecDepth 100000 in
theorem wd_19 : Cond.selects "AntTrailsModel" ⟨"AntTrailsModel", "isPath", "(I)Z"⟩ ⟨"AntTrailsModel", "isPath", "(I)Z"⟩ ∈ lw_tbl := mt0 (List.mem_of_getElem? (i := 19) rfl)
set_option maxRecDepth 100000 in
theorem wd_20 : Cond.selects "AntTrailsModel" ⟨"AntTrailsModel", "of", "(II)I"⟩ ⟨"AntTrailsModel", "of", "(II)I"⟩ ∈ lw_tbl := mt0 (List.mem_of_getElem? (i := 20) rfl)
set_option maxRecDepth 100000 in
theorem wd_21 : Cond.selects "AntTrailsModel" ⟨"AntTrailsModel", "openOnes", "()I"⟩ ⟨"AntTrailsModel", "openOnes", "()I"⟩ ∈ lw_tbl := mt0 (List.mem_of_getElem? (i := 21) rfl)
set_option maxRecDepth 100000 in
theorem wd_22 : Cond.selects "AntTrailsModel" ⟨"AntTrailsModel", "isOpen", "(I)Z"⟩ ⟨"AntTrailsModel", "isOpen", "(I)Z"⟩ ∈ lw_tbl := mt0 (List.mem_of_getElem? (i := 22) rfl)
set_option maxRecDepth 100000 in
theorem wd_23 : Cond.selects "AntTrailsModel" ⟨"AntTrailsModel", "goFood", "(I)I"⟩ ⟨"AntTrailsModel", "goFood", "(I)I"⟩ ∈ lw_tbl := mt0 (List.mem_of_getElem? (i := 23) rfl)
set_option maxRecDepth 100000 in
theorem wd_24 : Cond.selects "AntTrailsModel" ⟨"AntTrailsModel", "goLap", "(I)I"⟩ ⟨"AntTrailsModel", "goLap", "(I)I"⟩ ∈ lw_tbl := mt0 (List.mem_of_getElem? (i := 24) rfl)
set_option maxRecDepth 100000 in
theorem wd_25 : Cond.selects "AntTrailsModel" ⟨"AntTrailsModel", "laps", "(I)V"⟩ ⟨"AntTrailsModel", "laps", "(I)V"⟩ ∈ lw_tbl := mt0 (List.mem_of_getElem? (i := 25) rfl)
set_option maxRecDepth 100000 in
theorem wd_26 : Cond.selects "AntTrailsModel" ⟨"AntTrailsModel", "oneLap", "()V"⟩ ⟨"AntTrailsModel", "oneLap", "()V"⟩ ∈ lw_tbl := mt0 (List.mem_of_getElem? (i := 26) rfl)
set_option maxRecDepth 100000 in
theorem wd_27 : Cond.selects "AntTrailsModel" ⟨"AntTrailsModel", "antGoes", "()V"⟩ ⟨"AntTrailsModel", "antGoes", "()V"⟩ ∈ lw_tbl := mt0 (List.mem_of_getElem? (i := 27) rfl)
set_option maxRecDepth 100000 in
theorem wd_28 : Cond.selects "AntTrailsModel" ⟨"AntTrailsModel", "sets", "()V"⟩ ⟨"AntTrailsModel", "sets", "()V"⟩ ∈ lw_tbl := mt0 (List.mem_of_getElem? (i := 28) rfl)
set_option maxRecDepth 100000 in
theorem wd_29 : Cond.selects "AntTrailsModel" ⟨"AntTrailsModel", "draws", "()I"⟩ ⟨"AntTrailsModel", "draws", "()I"⟩ ∈ lw_tbl := mt0 (List.mem_of_getElem? (i := 29) rfl)
set_option maxRecDepth 100000 in
theorem wd_30 : Cond.selects "AntTrailsModel" ⟨"AntTrailsModel", "canGo", "(I)Z"⟩ ⟨"AntTrailsModel", "canGo", "(I)Z"⟩ ∈ lw_tbl := mt0 (List.mem_of_getElem? (i := 30) rfl)
set_option maxRecDepth 100000 in
theorem wd_31 : Cond.selects "AntTrailsModel" ⟨"AntTrailsModel", "end", "(II)I"⟩ ⟨"AntTrailsModel", "end", "(II)I"⟩ ∈ lw_tbl := mt0 (List.mem_of_getElem? (i := 31) rfl)
set_option maxRecDepth 100000 in
theorem wd_32 : Cond.selects "AntTrailsModel" ⟨"AntTrailsModel", "weight", "(I)I"⟩ ⟨"AntTrailsModel", "weight", "(I)I"⟩ ∈ lw_tbl := mt0 (List.mem_of_getElem? (i := 32) rfl)
set_option maxRecDepth 100000 in
theorem wd_33 : Cond.selects "AntTrailsModel" ⟨"AntTrailsModel", "goesAlong", "(I)V"⟩ ⟨"AntTrailsModel", "goesAlong", "(I)V"⟩ ∈ lw_tbl := mt0 (List.mem_of_getElem? (i := 33) rfl)
set_option maxRecDepth 100000 in
theorem wd_34 : Cond.selects "AntTrailsModel" ⟨"AntTrailsModel", "isBest", "()V"⟩ ⟨"AntTrailsModel", "isBest", "()V"⟩ ∈ lw_tbl := mt0 (List.mem_of_getElem? (i := 34) rfl)
set_option maxRecDepth 100000 in
theorem wd_35 : Cond.selects "AntTrailsModel" ⟨"AntTrailsModel", "lays2", "(II)V"⟩ ⟨"AntTrailsModel", "lays2", "(II)V"⟩ ∈ lw_tbl := mt0 (List.mem_of_getElem? (i := 35) rfl)
set_option maxRecDepth 100000 in
theorem wd_36 : Cond.selects "AntTrailsModel" ⟨"AntTrailsModel", "trails", "()I"⟩ ⟨"AntTrailsModel", "trails", "()I"⟩ ∈ lw_tbl := mt0 (List.mem_of_getElem? (i := 36) rfl)
set_option maxRecDepth 100000 in
theorem wd_37 : Cond.selects "AntTrailsModel" ⟨"AntTrailsModel", "goSet", "(II)I"⟩ ⟨"AntTrailsModel", "goSet", "(II)I"⟩ ∈ lw_tbl := mt0 (List.mem_of_getElem? (i := 37) rfl)
set_option maxRecDepth 100000 in
theorem wd_38 : Cond.selects "AntTrailsModel" ⟨"AntTrailsModel", "inBest", "(I)I"⟩ ⟨"AntTrailsModel", "inBest", "(I)I"⟩ ∈ lw_tbl := mt0 (List.mem_of_getElem? (i := 38) rfl)
set_option maxRecDepth 100000 in
theorem wd_39 : Cond.selects "AntTrailsModel" ⟨"AntTrailsModel", "openAt", "(I)I"⟩ ⟨"AntTrailsModel", "openAt", "(I)I"⟩ ∈ lw_tbl := mt0 (List.mem_of_getElem? (i := 39) rfl)
set_option maxRecDepth 100000 in
theorem wd_40 : Cond.selects "AntTrailsModel" ⟨"AntTrailsModel", "farFrom", "(I)I"⟩ ⟨"AntTrailsModel", "farFrom", "(I)I"⟩ ∈ lw_tbl := mt0 (List.mem_of_getElem? (i := 40) rfl)
set_option maxRecDepth 100000 in
theorem wd_41 : Cond.selects "AntTrailsModel" ⟨"AntTrailsModel", "onBest", "(I)I"⟩ ⟨"AntTrailsModel", "onBest", "(I)I"⟩ ∈ lw_tbl := mt0 (List.mem_of_getElem? (i := 41) rfl)
set_option maxRecDepth 100000 in
theorem wd_42 : Cond.selects "AntTrailsModel" ⟨"AntTrailsModel", "greatestOn", "()I"⟩ ⟨"AntTrailsModel", "greatestOn", "()I"⟩ ∈ lw_tbl := mt0 (List.mem_of_getElem? (i := 42) rfl)
set_option maxRecDepth 100000 in
theorem wd_43 : Cond.selects "AntTrailsModel" ⟨"AntTrailsModel", "isGreater", "(II)Z"⟩ ⟨"AntTrailsModel", "isGreater", "(II)Z"⟩ ∈ lw_tbl := mt0 (List.mem_of_getElem? (i := 43) rfl)
set_option maxRecDepth 100000 in
theorem wd_44 : Cond.selects "AntTrailsModel" ⟨"AntTrailsModel", "greatest", "()I"⟩ ⟨"AntTrailsModel", "greatest", "()I"⟩ ∈ lw_tbl := mt0 (List.mem_of_getElem? (i := 44) rfl)
set_option maxRecDepth 100000 in
theorem wd_45 : Cond.selects "AntTrailsModel" ⟨"AntTrailsModel", "doesAll", "()Z"⟩ ⟨"AntTrailsModel", "doesAll", "()Z"⟩ ∈ lw_tbl := mt0 (List.mem_of_getElem? (i := 45) rfl)
set_option maxRecDepth 100000 in
theorem wd_46 : Cond.selects "AntTrailsModel" ⟨"AntTrailsModel", "sign", "()I"⟩ ⟨"AntTrailsModel", "sign", "()I"⟩ ∈ lw_tbl := mt0 (List.mem_of_getElem? (i := 46) rfl)
set_option maxRecDepth 100000 in
theorem wd_47 : Cond.selects "AntTrailsModel" ⟨"AntTrailsModel", "takesOrder", "(I)V"⟩ ⟨"AntTrailsModel", "takesOrder", "(I)V"⟩ ∈ lw_tbl := mt0 (List.mem_of_getElem? (i := 47) rfl)
set_option maxRecDepth 100000 in
theorem wd_48 : Cond.selects "AntTrailsModel" ⟨"AntTrailsModel", "takes", "(Z)V"⟩ ⟨"AntTrailsModel", "takes", "(Z)V"⟩ ∈ lw_tbl := mt0 (List.mem_of_getElem? (i := 48) rfl)
set_option maxRecDepth 100000 in
theorem wd_49 : Cond.selects "AntTrailsModel" ⟨"AntTrailsModel", "number", "()I"⟩ ⟨"AntTrailsModel", "number", "()I"⟩ ∈ lw_tbl := mt0 (List.mem_of_getElem? (i := 49) rfl)
set_option maxRecDepth 100000 in
theorem wd_50 : Cond.selects "AntTrailsModel" ⟨"AntTrailsModel", "called", "(I)I"⟩ ⟨"AntTrailsModel", "called", "(I)I"⟩ ∈ lw_tbl := mt0 (List.mem_of_getElem? (i := 50) rfl)
set_option maxRecDepth 100000 in
theorem wd_51 : Cond.initialized "AntTrailsLaw" ∈ lw_tbl := mt1 (List.mem_of_getElem? (i := 0) rfl)
set_option maxRecDepth 100000 in
theorem wd_52 : Cond.initialized "AntTrails" ∈ lw_tbl := mt1 (List.mem_of_getElem? (i := 1) rfl)
set_option maxRecDepth 100000 in
theorem wd_53 : Cond.initialized "AntTrails$Ground" ∈ lw_tbl := mt1 (List.mem_of_getElem? (i := 2) rfl)
set_option maxRecDepth 100000 in
theorem wd_54 : Cond.initialized "AntTrails$Way" ∈ lw_tbl := mt1 (List.mem_of_getElem? (i := 3) rfl)
set_option maxRecDepth 100000 in
theorem wd_55 : Cond.initialized "AntTrails$History" ∈ lw_tbl := mt1 (List.mem_of_getElem? (i := 4) rfl)
set_option maxRecDepth 100000 in
theorem wd_56 : Cond.initialized "AntTrails$Colony" ∈ lw_tbl := mt1 (List.mem_of_getElem? (i := 5) rfl)
set_option maxRecDepth 100000 in
theorem wd_57 : Cond.initialized "AntTrails$Survey" ∈ lw_tbl := mt1 (List.mem_of_getElem? (i := 6) rfl)
set_option maxRecDepth 100000 in
theorem wd_58 : Cond.initialized "AntTrails$Orders" ∈ lw_tbl := mt1 (List.mem_of_getElem? (i := 7) rfl)
set_option maxRecDepth 100000 in
theorem wd_59 : Cond.initialized "AntTrailsModel" ∈ lw_tbl := mt1 (List.mem_of_getElem? (i := 8) rfl)
set_option maxRecDepth 100000 in
theorem wd_60 : Cond.initialized "java/lang/Math" ∈ lw_tbl := mt1 (List.mem_of_getElem? (i := 9) rfl)
set_option maxRecDepth 100000 in
theorem wd_61 : Cond.initialized "java/lang/Float" ∈ lw_tbl := mt1 (List.mem_of_getElem? (i := 10) rfl)
set_option maxRecDepth 100000 in
theorem wd_62 : Cond.classLink "AntTrailsLaw" 7 "AntTrails" ∈ lw_tbl := mt1 (List.mem_of_getElem? (i := 11) rfl)
set_option maxRecDepth 100000 in
theorem wd_63 : Cond.instantiable "AntTrails" 6 ∈ lw_tbl := mt1 (List.mem_of_getElem? (i := 12) rfl)
set_option maxRecDepth 100000 in
theorem wd_64 : Cond.methodLink "AntTrailsLaw" 9 ⟨"AntTrails", "<init>", "()V"⟩ ∈ lw_tbl := mt1 (List.mem_of_getElem? (i := 13) rfl)
set_option maxRecDepth 100000 in
theorem wd_65 : Cond.instanceMethod ⟨"AntTrails", "<init>", "()V"⟩ ∈ lw_tbl := mt1 (List.mem_of_getElem? (i := 14) rfl)
set_option maxRecDepth 100000 in
theorem wd_66 : Cond.code ⟨"AntTrails", "<init>", "()V"⟩ prog_1_method_1_code 1 none ∈ lw_tbl := mt1 (List.mem_of_getElem? (i := 15) rfl)
set_option maxRecDepth 100000 in
theorem wd_67 : Cond.methodLink "AntTrails" 1 ⟨"java/lang/Object", "<init>", "()V"⟩ ∈ lw_tbl := mt1 (List.mem_of_getElem? (i := 16) rfl)
set_option maxRecDepth 100000 in
theorem wd_68 : Cond.instanceMethod ⟨"java/lang/Object", "<init>", "()V"⟩ ∈ lw_tbl := mt1 (List.mem_of_getElem? (i := 17) rfl)
set_option maxRecDepth 100000 in
theorem wd_69 : Cond.code ⟨"java/lang/Object", "<init>", "()V"⟩ object_method_1_code 1 none ∈ lw_tbl := mt1 (List.mem_of_getElem? (i := 18) rfl)
set_option maxRecDepth 100000 in
theorem wd_70 : Cond.classLink "AntTrails" 7 "AntTrails$Ground" ∈ lw_tbl := mt1 (List.mem_of_getElem? (i := 19) rfl)
set_option maxRecDepth 100000 in
theorem wd_71 : Cond.instantiable "AntTrails$Ground" 17 ∈ lw_tbl := mt1 (List.mem_of_getElem? (i := 20) rfl)
set_option maxRecDepth 100000 in
theorem wd_72 : Cond.methodLink "AntTrails" 9 ⟨"AntTrails$Ground", "<init>", "()V"⟩ ∈ lw_tbl := mt1 (List.mem_of_getElem? (i := 21) rfl)
set_option maxRecDepth 100000 in
theorem wd_73 : Cond.instanceMethod ⟨"AntTrails$Ground", "<init>", "()V"⟩ ∈ lw_tbl := mt1 (List.mem_of_getElem? (i := 22) rfl)
set_option maxRecDepth 100000 in
theorem wd_74 : Cond.code ⟨"AntTrails$Ground", "<init>", "()V"⟩ prog_3_method_1_code 1 none ∈ lw_tbl := mt1 (List.mem_of_getElem? (i := 23) rfl)
set_option maxRecDepth 100000 in
theorem wd_75 : Cond.methodLink "AntTrails$Ground" 3 ⟨"java/lang/Object", "<init>", "()V"⟩ ∈ lw_tbl := mt1 (List.mem_of_getElem? (i := 24) rfl)
set_option maxRecDepth 100000 in
theorem wd_76 : Cond.classLink "AntTrails$Ground" 58 "AntTrails$Way" ∈ lw_tbl := mt1 (List.mem_of_getElem? (i := 25) rfl)
set_option maxRecDepth 100000 in
theorem wd_77 : Cond.instantiable "AntTrails$Way" 5 ∈ lw_tbl := mt1 (List.mem_of_getElem? (i := 26) rfl)
set_option maxRecDepth 100000 in
theorem wd_78 : Cond.methodLinkNest "AntTrails$Ground" 60 ⟨"AntTrails$Way", "<init>", "()V"⟩ "AntTrails" ∈ lw_tbl := mt1 (List.mem_of_getElem? (i := 27) rfl)
set_option maxRecDepth 100000 in
theorem wd_79 : Cond.instanceMethod ⟨"AntTrails$Way", "<init>", "()V"⟩ ∈ lw_tbl := mt1 (List.mem_of_getElem? (i := 28) rfl)
set_option maxRecDepth 100000 in
theorem wd_80 : Cond.code ⟨"AntTrails$Way", "<init>", "()V"⟩ prog_7_method_1_code 1 none ∈ lw_tbl := mt1 (List.mem_of_getElem? (i := 29) rfl)
set_option maxRecDepth 100000 in
theorem wd_81 : Cond.methodLink "AntTrails$Way" 3 ⟨"java/lang/Object", "<init>", "()V"⟩ ∈ lw_tbl := mt1 (List.mem_of_getElem? (i := 30) rfl)
set_option maxRecDepth 100000 in
theorem wd_82 : Cond.fieldLink "AntTrails$Way" 9 "AntTrails$Way" "places" "[I" ∈ lw_tbl := mt1 (List.mem_of_getElem? (i := 31) rfl)
set_option maxRecDepth 100000 in
theorem wd_83 : Cond.fieldLink "AntTrails$Way" 15 "AntTrails$Way" "steps" "I" ∈ lw_tbl := mt1 (List.mem_of_getElem? (i := 32) rfl)
set_option maxRecDepth 100000 in
theorem wd_84 : Cond.fieldLinkNest "AntTrails$Ground" 79 "AntTrails$Way" "steps" "I" "AntTrails" ∈ lw_tbl := mt1 (List.mem_of_getElem? (i := 33) rfl)
set_option maxRecDepth 100000 in
theorem wd_85 : Cond.fieldLinkNest "AntTrails" 148 "AntTrails$Way" "steps" "I" "AntTrails" ∈ lw_tbl := mt1 (List.mem_of_getElem? (i := 34) rfl)
set_option maxRecDepth 100000 in
theorem wd_86 : Cond.fieldLink "AntTrails$Way" 19 "AntTrails$Way" "length" "I" ∈ lw_tbl := mt1 (List.mem_of_getElem? (i := 35) rfl)
set_option maxRecDepth 100000 in
theorem wd_87 : Cond.fieldLinkNest "AntTrails$Colony" 102 "AntTrails$Way" "length" "I" "AntTrails" ∈ lw_tbl := mt1 (List.mem_of_getElem? (i := 36) rfl)
set_option maxRecDepth 100000 in
theorem wd_88 : Cond.fieldLinkNest "AntTrails" 144 "AntTrails$Way" "length" "I" "AntTrails" ∈ lw_tbl := mt1 (List.mem_of_getElem? (i := 37) rfl)
set_option maxRecDepth 100000 in
theorem wd_89 : Cond.fieldLinkNest "AntTrails$Ground" 148 "AntTrails$Way" "length" "I" "AntTrails" ∈ lw_tbl := mt1 (List.mem_of_getElem? (i := 38) rfl)
set_option maxRecDepth 100000 in
theorem wd_90 : Cond.fieldLink "AntTrails$Way" 22 "AntTrails$Way" "pathSet" "I" ∈ lw_tbl := mt1 (List.mem_of_getElem? (i := 39) rfl)
set_option maxRecDepth 100000 in
theorem wd_91 : Cond.fieldLinkNest "AntTrails" 154 "AntTrails$Way" "pathSet" "I" "AntTrails" ∈ lw_tbl := mt1 (List.mem_of_getElem? (i := 40) rfl)
set_option maxRecDepth 100000 in
theorem wd_92 : Cond.fieldLink "AntTrails$Way" 25 "AntTrails$Way" "placeSet" "I" ∈ lw_tbl := mt1 (List.mem_of_getElem? (i := 41) rfl)
set_option maxRecDepth 100000 in
theorem wd_93 : Cond.laysFinal "AntTrails$Way" "AntTrails$Way" "places" "[I" ∈ lw_tbl := mt1 (List.mem_of_getElem? (i := 42) rfl)
set_option maxRecDepth 100000 in
theorem wd_95 : Cond.lays "AntTrails$Way" "AntTrails$Way" "steps" "I" ∈ lw_tbl := mt1 (List.mem_of_getElem? (i := 44) rfl)
set_option maxRecDepth 100000 in
theorem wd_97 : Cond.lays "AntTrails$Way" "AntTrails$Way" "length" "I" ∈ lw_tbl := mt1 (List.mem_of_getElem? (i := 46) rfl)
set_option maxRecDepth 100000 in
theorem wd_99 : Cond.lays "AntTrails$Way" "AntTrails$Way" "pathSet" "I" ∈ lw_tbl := mt1 (List.mem_of_getElem? (i := 48) rfl)
set_option maxRecDepth 100000 in
theorem wd_101 : Cond.lays "AntTrails$Way" "AntTrails$Way" "placeSet" "I" ∈ lw_tbl := mt1 (List.mem_of_getElem? (i := 50) rfl)
set_option maxRecDepth 100000 in
theorem wd_104 : Cond.arrayClass .int ∈ lw_tbl := mt1 (List.mem_of_getElem? (i := 53) rfl)
set_option maxRecDepth 100000 in
theorem wd_105 : Cond.fieldLinkNest "AntTrails$Ground" 68 "AntTrails" "AT_FIRST" "[I" "AntTrails" ∈ lw_tbl := mt1 (List.mem_of_getElem? (i := 54) rfl)
set_option maxRecDepth 100000 in
theorem wd_106 : Cond.laysStatic "AntTrails" "AT_FIRST" "[I" ∈ lw_tbl := mt1 (List.mem_of_getElem? (i := 55) rfl)
set_option maxRecDepth 100000 in
theorem wd_107 : Cond.methodLinkNest "AntTrails$Ground" 71 ⟨"AntTrails", "copyRow", "([I[I)V"⟩ "AntTrails" ∈ lw_tbl := mt1 (List.mem_of_getElem? (i := 56) rfl)
set_option maxRecDepth 100000 in
theorem wd_108 : Cond.static ⟨"AntTrails", "copyRow", "([I[I)V"⟩ ∈ lw_tbl := mt1 (List.mem_of_getElem? (i := 57) rfl)
set_option maxRecDepth 100000 in
theorem wd_109 : Cond.code ⟨"AntTrails", "copyRow", "([I[I)V"⟩ prog_1_method_27_code 3 none ∈ lw_tbl := mt1 (List.mem_of_getElem? (i := 58) rfl)
set_option maxRecDepth 100000 in
theorem wd_110 : Cond.fieldLink "AntTrails$Ground" 9 "AntTrails$Ground" "placeCount" "I" ∈ lw_tbl := mt1 (List.mem_of_getElem? (i := 59) rfl)
set_option maxRecDepth 100000 in
theorem wd_111 : Cond.fieldLinkNest "AntTrails$Survey" 30 "AntTrails$Ground" "placeCount" "I" "AntTrails" ∈ lw_tbl := mt1 (List.mem_of_getElem? (i := 60) rfl)
set_option maxRecDepth 100000 in
theorem wd_112 : Cond.fieldLinkNest "AntTrails" 207 "AntTrails$Ground" "placeCount" "I" "AntTrails" ∈ lw_tbl := mt1 (List.mem_of_getElem? (i := 61) rfl)
set_option maxRecDepth 100000 in
theorem wd_113 : Cond.fieldLink "AntTrails$Ground" 15 "AntTrails$Ground" "came" "[I" ∈ lw_tbl := mt1 (List.mem_of_getElem? (i := 62) rfl)
set_option maxRecDepth 100000 in
theorem wd_114 : Cond.fieldLinkNest "AntTrails" 123 "AntTrails$Ground" "came" "[I" "AntTrails" ∈ lw_tbl := mt1 (List.mem_of_getElem? (i := 63) rfl)
set_option maxRecDepth 100000 in
theorem wd_115 : Cond.fieldLink "AntTrails$Ground" 19 "AntTrails$Ground" "stuckAt" "[I" ∈ lw_tbl := mt1 (List.mem_of_getElem? (i := 64) rfl)
set_option maxRecDepth 100000 in
theorem wd_116 : Cond.fieldLinkNest "AntTrails" 126 "AntTrails$Ground" "stuckAt" "[I" "AntTrails" ∈ lw_tbl := mt1 (List.mem_of_getElem? (i := 65) rfl)
set_option maxRecDepth 100000 in
theorem wd_117 : Cond.fieldLink "AntTrails$Ground" 22 "AntTrails$Ground" "pathCount" "I" ∈ lw_tbl := mt1 (List.mem_of_getElem? (i := 66) rfl)
set_option maxRecDepth 100000 in
theorem wd_118 : Cond.fieldLinkNest "AntTrails$Survey" 34 "AntTrails$Ground" "pathCount" "I" "AntTrails" ∈ lw_tbl := mt1 (List.mem_of_getElem? (i := 67) rfl)
set_option maxRecDepth 100000 in
theorem wd_119 : Cond.fieldLinkNest "AntTrails$Colony" 113 "AntTrails$Ground" "pathCount" "I" "AntTrails" ∈ lw_tbl := mt1 (List.mem_of_getElem? (i := 68) rfl)
set_option maxRecDepth 100000 in
theorem wd_120 : Cond.fieldLinkNest "AntTrails" 210 "AntTrails$Ground" "pathCount" "I" "AntTrails" ∈ lw_tbl := mt1 (List.mem_of_getElem? (i := 69) rfl)
set_option maxRecDepth 100000 in
theorem wd_121 : Cond.fieldLink "AntTrails$Ground" 25 "AntTrails$Ground" "oneEnd" "[I" ∈ lw_tbl := mt1 (List.mem_of_getElem? (i := 70) rfl)
set_option maxRecDepth 100000 in
theorem wd_122 : Cond.fieldLinkNest "AntTrails$Survey" 47 "AntTrails$Ground" "oneEnd" "[I" "AntTrails" ∈ lw_tbl := mt1 (List.mem_of_getElem? (i := 71) rfl)
set_option maxRecDepth 100000 in
theorem wd_123 : Cond.fieldLinkNest "AntTrails" 86 "AntTrails$Ground" "oneEnd" "[I" "AntTrails" ∈ lw_tbl := mt1 (List.mem_of_getElem? (i := 72) rfl)
set_option maxRecDepth 100000 in
theorem wd_124 : Cond.fieldLink "AntTrails$Ground" 28 "AntTrails$Ground" "otherEnd" "[I" ∈ lw_tbl := mt1 (List.mem_of_getElem? (i := 73) rfl)
set_option maxRecDepth 100000 in
theorem wd_125 : Cond.fieldLinkNest "AntTrails$Survey" 50 "AntTrails$Ground" "otherEnd" "[I" "AntTrails" ∈ lw_tbl := mt1 (List.mem_of_getElem? (i := 74) rfl)
set_option maxRecDepth 100000 in
theorem wd_126 : Cond.fieldLinkNest "AntTrails" 90 "AntTrails$Ground" "otherEnd" "[I" "AntTrails" ∈ lw_tbl := mt1 (List.mem_of_getElem? (i := 75) rfl)
set_option maxRecDepth 100000 in
theorem wd_127 : Cond.fieldLink "AntTrails$Ground" 31 "AntTrails$Ground" "lengths" "[I" ∈ lw_tbl := mt1 (List.mem_of_getElem? (i := 76) rfl)
set_option maxRecDepth 100000 in
theorem wd_128 : Cond.fieldLinkNest "AntTrails$Survey" 57 "AntTrails$Ground" "lengths" "[I" "AntTrails" ∈ lw_tbl := mt1 (List.mem_of_getElem? (i := 77) rfl)
set_option maxRecDepth 100000 in
theorem wd_129 : Cond.fieldLinkNest "AntTrails" 93 "AntTrails$Ground" "lengths" "[I" "AntTrails" ∈ lw_tbl := mt1 (List.mem_of_getElem? (i := 78) rfl)
set_option maxRecDepth 100000 in
theorem wd_130 : Cond.fieldLink "AntTrails$Ground" 34 "AntTrails$Ground" "trails" "[I" ∈ lw_tbl := mt1 (List.mem_of_getElem? (i := 79) rfl)
set_option maxRecDepth 100000 in
theorem wd_131 : Cond.fieldLinkNest "AntTrails$Survey" 98 "AntTrails$Ground" "trails" "[I" "AntTrails" ∈ lw_tbl := mt1 (List.mem_of_getElem? (i := 80) rfl)
set_option maxRecDepth 100000 in
theorem wd_132 : Cond.fieldLinkNest "AntTrails" 96 "AntTrails$Ground" "trails" "[I" "AntTrails" ∈ lw_tbl := mt1 (List.mem_of_getElem? (i := 81) rfl)
set_option maxRecDepth 100000 in
theorem wd_133 : Cond.fieldLink "AntTrails$Ground" 37 "AntTrails$Ground" "walked" "[I" ∈ lw_tbl := mt1 (List.mem_of_getElem? (i := 82) rfl)
set_option maxRecDepth 100000 in
theorem wd_134 : Cond.fieldLinkNest "AntTrails" 105 "AntTrails$Ground" "walked" "[I" "AntTrails" ∈ lw_tbl := mt1 (List.mem_of_getElem? (i := 83) rfl)
set_option maxRecDepth 100000 in
theorem wd_135 : Cond.fieldLink "AntTrails$Ground" 40 "AntTrails$Ground" "closed" "[I" ∈ lw_tbl := mt1 (List.mem_of_getElem? (i := 84) rfl)
set_option maxRecDepth 100000 in
theorem wd_136 : Cond.fieldLink "AntTrails$Ground" 43 "AntTrails$Ground" "food" "I" ∈ lw_tbl := mt1 (List.mem_of_getElem? (i := 85) rfl)
set_option maxRecDepth 100000 in
theorem wd_137 : Cond.fieldLinkNest "AntTrails$Survey" 73 "AntTrails$Ground" "food" "I" "AntTrails" ∈ lw_tbl := mt1 (List.mem_of_getElem? (i := 86) rfl)
set_option maxRecDepth 100000 in
theorem wd_138 : Cond.fieldLinkNest "AntTrails$Colony" 86 "AntTrails$Ground" "food" "I" "AntTrails" ∈ lw_tbl := mt1 (List.mem_of_getElem? (i := 87) rfl)
set_option maxRecDepth 100000 in
theorem wd_139 : Cond.fieldLinkNest "AntTrails" 183 "AntTrails$Ground" "food" "I" "AntTrails" ∈ lw_tbl := mt1 (List.mem_of_getElem? (i := 88) rfl)
set_option maxRecDepth 100000 in
theorem wd_140 : Cond.fieldLink "AntTrails$Ground" 46 "AntTrails$Ground" "x" "I" ∈ lw_tbl := mt1 (List.mem_of_getElem? (i := 89) rfl)
set_option maxRecDepth 100000 in
theorem wd_141 : Cond.fieldLinkNest "AntTrails" 222 "AntTrails$Ground" "x" "I" "AntTrails" ∈ lw_tbl := mt1 (List.mem_of_getElem? (i := 90) rfl)
set_option maxRecDepth 100000 in
theorem wd_142 : Cond.fieldLink "AntTrails$Ground" 49 "AntTrails$Ground" "settings" "[I" ∈ lw_tbl := mt1 (List.mem_of_getElem? (i := 91) rfl)
set_option maxRecDepth 100000 in
theorem wd_143 : Cond.fieldLink "AntTrails$Ground" 52 "AntTrails$Ground" "laps" "I" ∈ lw_tbl := mt1 (List.mem_of_getElem? (i := 92) rfl)
set_option maxRecDepth 100000 in
theorem wd_144 : Cond.fieldLinkNest "AntTrails$Colony" 71 "AntTrails$Ground" "laps" "I" "AntTrails" ∈ lw_tbl := mt1 (List.mem_of_getElem? (i := 93) rfl)
set_option maxRecDepth 100000 in
theorem wd_145 : Cond.fieldLinkNest "AntTrails" 216 "AntTrails$Ground" "laps" "I" "AntTrails" ∈ lw_tbl := mt1 (List.mem_of_getElem? (i := 94) rfl)
set_option maxRecDepth 100000 in
theorem wd_146 : Cond.fieldLink "AntTrails$Ground" 55 "AntTrails$Ground" "ended" "[I" ∈ lw_tbl := mt1 (List.mem_of_getElem? (i := 95) rfl)
set_option maxRecDepth 100000 in
theorem wd_147 : Cond.fieldLinkNest "AntTrails$Colony" 37 "AntTrails$Ground" "ended" "[I" "AntTrails" ∈ lw_tbl := mt1 (List.mem_of_getElem? (i := 96) rfl)
set_option maxRecDepth 100000 in
theorem wd_148 : Cond.fieldLinkNest "AntTrails" 198 "AntTrails$Ground" "ended" "[I" "AntTrails" ∈ lw_tbl := mt1 (List.mem_of_getElem? (i := 97) rfl)
set_option maxRecDepth 100000 in
theorem wd_149 : Cond.fieldLink "AntTrails$Ground" 61 "AntTrails$Ground" "best" "LAntTrails$Way;" ∈ lw_tbl := mt1 (List.mem_of_getElem? (i := 98) rfl)
set_option maxRecDepth 100000 in
theorem wd_150 : Cond.fieldLinkNest "AntTrails" 108 "AntTrails$Ground" "best" "LAntTrails$Way;" "AntTrails" ∈ lw_tbl := mt1 (List.mem_of_getElem? (i := 99) rfl)
set_option maxRecDepth 100000 in
theorem wd_151 : Cond.fieldLink "AntTrails$Ground" 65 "AntTrails$Ground" "bestLap" "I" ∈ lw_tbl := mt1 (List.mem_of_getElem? (i := 100) rfl)
set_option maxRecDepth 100000 in
theorem wd_152 : Cond.fieldLinkNest "AntTrails" 151 "AntTrails$Ground" "bestLap" "I" "AntTrails" ∈ lw_tbl := mt1 (List.mem_of_getElem? (i := 101) rfl)
set_option maxRecDepth 100000 in
theorem wd_153 : Cond.lays "AntTrails$Ground" "AntTrails$Ground" "placeCount" "I" ∈ lw_tbl := mt1 (List.mem_of_getElem? (i := 102) rfl)
set_option maxRecDepth 100000 in
theorem wd_155 : Cond.laysFinal "AntTrails$Ground" "AntTrails$Ground" "came" "[I" ∈ lw_tbl := mt1 (List.mem_of_getElem? (i := 104) rfl)
set_option maxRecDepth 100000 in
theorem wd_157 : Cond.laysFinal "AntTrails$Ground" "AntTrails$Ground" "stuckAt" "[I" ∈ lw_tbl := mt1 (List.mem_of_getElem? (i := 106) rfl)
set_option maxRecDepth 100000 in
theorem wd_159 : Cond.lays "AntTrails$Ground" "AntTrails$Ground" "pathCount" "I" ∈ lw_tbl := mt1 (List.mem_of_getElem? (i := 108) rfl)
set_option maxRecDepth 100000 in
theorem wd_161 : Cond.laysFinal "AntTrails$Ground" "AntTrails$Ground" "oneEnd" "[I" ∈ lw_tbl := mt1 (List.mem_of_getElem? (i := 110) rfl)
set_option maxRecDepth 100000 in
theorem wd_163 : Cond.laysFinal "AntTrails$Ground" "AntTrails$Ground" "otherEnd" "[I" ∈ lw_tbl := mt1 (List.mem_of_getElem? (i := 112) rfl)
set_option maxRecDepth 100000 in
theorem wd_165 : Cond.laysFinal "AntTrails$Ground" "AntTrails$Ground" "lengths" "[I" ∈ lw_tbl := mt1 (List.mem_of_getElem? (i := 114) rfl)
set_option maxRecDepth 100000 in
theorem wd_167 : Cond.laysFinal "AntTrails$Ground" "AntTrails$Ground" "trails" "[I" ∈ lw_tbl := mt1 (List.mem_of_getElem? (i := 116) rfl)
set_option maxRecDepth 100000 in
theorem wd_169 : Cond.laysFinal "AntTrails$Ground" "AntTrails$Ground" "walked" "[I" ∈ lw_tbl := mt1 (List.mem_of_getElem? (i := 118) rfl)
set_option maxRecDepth 100000 in
theorem wd_171 : Cond.laysFinal "AntTrails$Ground" "AntTrails$Ground" "closed" "[I" ∈ lw_tbl := mt1 (List.mem_of_getElem? (i := 120) rfl)
set_option maxRecDepth 100000 in
theorem wd_173 : Cond.lays "AntTrails$Ground" "AntTrails$Ground" "food" "I" ∈ lw_tbl := mt1 (List.mem_of_getElem? (i := 122) rfl)
set_option maxRecDepth 100000 in
theorem wd_175 : Cond.lays "AntTrails$Ground" "AntTrails$Ground" "x" "I" ∈ lw_tbl := mt1 (List.mem_of_getElem? (i := 124) rfl)
set_option maxRecDepth 100000 in
theorem wd_177 : Cond.laysFinal "AntTrails$Ground" "AntTrails$Ground" "settings" "[I" ∈ lw_tbl := mt1 (List.mem_of_getElem? (i := 126) rfl)
set_option maxRecDepth 100000 in
theorem wd_179 : Cond.lays "AntTrails$Ground" "AntTrails$Ground" "laps" "I" ∈ lw_tbl := mt1 (List.mem_of_getElem? (i := 128) rfl)
set_option maxRecDepth 100000 in
theorem wd_181 : Cond.laysFinal "AntTrails$Ground" "AntTrails$Ground" "ended" "[I" ∈ lw_tbl := mt1 (List.mem_of_getElem? (i := 130) rfl)
set_option maxRecDepth 100000 in
theorem wd_183 : Cond.laysFinal "AntTrails$Ground" "AntTrails$Ground" "best" "LAntTrails$Way;" ∈ lw_tbl := mt1 (List.mem_of_getElem? (i := 132) rfl)
set_option maxRecDepth 100000 in
theorem wd_185 : Cond.lays "AntTrails$Ground" "AntTrails$Ground" "bestLap" "I" ∈ lw_tbl := mt1 (List.mem_of_getElem? (i := 134) rfl)
set_option maxRecDepth 100000 in
theorem wd_188 : Cond.classLink "AntTrails" 19 "AntTrails$History" ∈ lw_tbl := mt1 (List.mem_of_getElem? (i := 137) rfl)
set_option maxRecDepth 100000 in
theorem wd_189 : Cond.instantiable "AntTrails$History" 2 ∈ lw_tbl := mt1 (List.mem_of_getElem? (i := 138) rfl)
set_option maxRecDepth 100000 in
theorem wd_190 : Cond.methodLink "AntTrails" 21 ⟨"AntTrails$History", "<init>", "()V"⟩ ∈ lw_tbl := mt1 (List.mem_of_getElem? (i := 139) rfl)
set_option maxRecDepth 100000 in
theorem wd_191 : Cond.instanceMethod ⟨"AntTrails$History", "<init>", "()V"⟩ ∈ lw_tbl := mt1 (List.mem_of_getElem? (i := 140) rfl)
set_option maxRecDepth 100000 in
theorem wd_192 : Cond.code ⟨"AntTrails$History", "<init>", "()V"⟩ prog_4_method_1_code 2 none ∈ lw_tbl := mt1 (List.mem_of_getElem? (i := 141) rfl)
set_option maxRecDepth 100000 in
theorem wd_193 : Cond.methodLink "AntTrails$History" 3 ⟨"java/lang/Object", "<init>", "()V"⟩ ∈ lw_tbl := mt1 (List.mem_of_getElem? (i := 142) rfl)
set_option maxRecDepth 100000 in
theorem wd_194 : Cond.classLink "AntTrails$History" 9 "AntTrails$Ground" ∈ lw_tbl := mt1 (List.mem_of_getElem? (i := 143) rfl)
set_option maxRecDepth 100000 in
theorem wd_195 : Cond.arrayOver (.object "AntTrails$Ground") ∈ lw_tbl := mt1 (List.mem_of_getElem? (i := 144) rfl)
set_option maxRecDepth 100000 in
theorem wd_196 : Cond.methodLink "AntTrails$History" 21 ⟨"AntTrails$Ground", "<init>", "()V"⟩ ∈ lw_tbl := mt1 (List.mem_of_getElem? (i := 145) rfl)
set_option maxRecDepth 100000 in
theorem wd_197 : Cond.fieldLink "AntTrails$History" 11 "AntTrails$History" "states" "[LAntTrails$Ground;" ∈ lw_tbl := mt1 (List.mem_of_getElem? (i := 146) rfl)
set_option maxRecDepth 100000 in
theorem wd_198 : Cond.fieldLink "AntTrails$History" 17 "AntTrails$History" "kept" "I" ∈ lw_tbl := mt1 (List.mem_of_getElem? (i := 147) rfl)
set_option maxRecDepth 100000 in
theorem wd_199 : Cond.fieldLinkNest "AntTrails" 225 "AntTrails$History" "kept" "I" "AntTrails" ∈ lw_tbl := mt1 (List.mem_of_getElem? (i := 148) rfl)
set_option maxRecDepth 100000 in
theorem wd_200 : Cond.laysFinal "AntTrails$History" "AntTrails$History" "states" "[LAntTrails$Ground;" ∈ lw_tbl := mt1 (List.mem_of_getElem? (i := 149) rfl)
set_option maxRecDepth 100000 in
theorem wd_202 : Cond.lays "AntTrails$History" "AntTrails$History" "kept" "I" ∈ lw_tbl := mt1 (List.mem_of_getElem? (i := 151) rfl)
set_option maxRecDepth 100000 in
theorem wd_205 : Cond.classLink "AntTrails" 26 "AntTrails$Colony" ∈ lw_tbl := mt1 (List.mem_of_getElem? (i := 154) rfl)
set_option maxRecDepth 100000 in
theorem wd_206 : Cond.instantiable "AntTrails$Colony" 3 ∈ lw_tbl := mt1 (List.mem_of_getElem? (i := 155) rfl)
set_option maxRecDepth 100000 in
theorem wd_207 : Cond.methodLinkNest "AntTrails" 28 ⟨"AntTrails$Colony", "<init>", "()V"⟩ "AntTrails" ∈ lw_tbl := mt1 (List.mem_of_getElem? (i := 156) rfl)
set_option maxRecDepth 100000 in
theorem wd_208 : Cond.instanceMethod ⟨"AntTrails$Colony", "<init>", "()V"⟩ ∈ lw_tbl := mt1 (List.mem_of_getElem? (i := 157) rfl)
set_option maxRecDepth 100000 in
theorem wd_209 : Cond.code ⟨"AntTrails$Colony", "<init>", "()V"⟩ prog_2_method_1_code 1 none ∈ lw_tbl := mt1 (List.mem_of_getElem? (i := 158) rfl)
set_option maxRecDepth 100000 in
theorem wd_210 : Cond.methodLink "AntTrails$Colony" 3 ⟨"java/lang/Object", "<init>", "()V"⟩ ∈ lw_tbl := mt1 (List.mem_of_getElem? (i := 159) rfl)
set_option maxRecDepth 100000 in
theorem wd_211 : Cond.classLink "AntTrails$Colony" 9 "AntTrails$Way" ∈ lw_tbl := mt1 (List.mem_of_getElem? (i := 160) rfl)
set_option maxRecDepth 100000 in
theorem wd_212 : Cond.methodLinkNest "AntTrails$Colony" 11 ⟨"AntTrails$Way", "<init>", "()V"⟩ "AntTrails" ∈ lw_tbl := mt1 (List.mem_of_getElem? (i := 161) rfl)
set_option maxRecDepth 100000 in
theorem wd_213 : Cond.fieldLink "AntTrails$Colony" 12 "AntTrails$Colony" "way" "LAntTrails$Way;" ∈ lw_tbl := mt1 (List.mem_of_getElem? (i := 162) rfl)
set_option maxRecDepth 100000 in
theorem wd_214 : Cond.fieldLinkNest "AntTrails" 194 "AntTrails$Colony" "way" "LAntTrails$Way;" "AntTrails" ∈ lw_tbl := mt1 (List.mem_of_getElem? (i := 163) rfl)
set_option maxRecDepth 100000 in
theorem wd_215 : Cond.fieldLink "AntTrails$Colony" 18 "AntTrails$Colony" "laid" "[I" ∈ lw_tbl := mt1 (List.mem_of_getElem? (i := 164) rfl)
set_option maxRecDepth 100000 in
theorem wd_216 : Cond.fieldLink "AntTrails$Colony" 22 "AntTrails$Colony" "weights" "[I" ∈ lw_tbl := mt1 (List.mem_of_getElem? (i := 165) rfl)
set_option maxRecDepth 100000 in
theorem wd_217 : Cond.laysFinal "AntTrails$Colony" "AntTrails$Colony" "way" "LAntTrails$Way;" ∈ lw_tbl := mt1 (List.mem_of_getElem? (i := 166) rfl)
set_option maxRecDepth 100000 in
theorem wd_219 : Cond.laysFinal "AntTrails$Colony" "AntTrails$Colony" "laid" "[I" ∈ lw_tbl := mt1 (List.mem_of_getElem? (i := 168) rfl)
set_option maxRecDepth 100000 in
theorem wd_221 : Cond.laysFinal "AntTrails$Colony" "AntTrails$Colony" "weights" "[I" ∈ lw_tbl := mt1 (List.mem_of_getElem? (i := 170) rfl)
set_option maxRecDepth 100000 in
theorem wd_224 : Cond.classLink "AntTrails" 33 "AntTrails$Survey" ∈ lw_tbl := mt1 (List.mem_of_getElem? (i := 173) rfl)
set_option maxRecDepth 100000 in
theorem wd_225 : Cond.instantiable "AntTrails$Survey" 2 ∈ lw_tbl := mt1 (List.mem_of_getElem? (i := 174) rfl)
set_option maxRecDepth 100000 in
theorem wd_226 : Cond.methodLinkNest "AntTrails" 35 ⟨"AntTrails$Survey", "<init>", "()V"⟩ "AntTrails" ∈ lw_tbl := mt1 (List.mem_of_getElem? (i := 175) rfl)
set_option maxRecDepth 100000 in
theorem wd_227 : Cond.instanceMethod ⟨"AntTrails$Survey", "<init>", "()V"⟩ ∈ lw_tbl := mt1 (List.mem_of_getElem? (i := 176) rfl)
set_option maxRecDepth 100000 in
theorem wd_228 : Cond.code ⟨"AntTrails$Survey", "<init>", "()V"⟩ prog_6_method_1_code 1 none ∈ lw_tbl := mt1 (List.mem_of_getElem? (i := 177) rfl)
set_option maxRecDepth 100000 in
theorem wd_229 : Cond.methodLink "AntTrails$Survey" 3 ⟨"java/lang/Object", "<init>", "()V"⟩ ∈ lw_tbl := mt1 (List.mem_of_getElem? (i := 178) rfl)
set_option maxRecDepth 100000 in
theorem wd_230 : Cond.classLink "AntTrails$Survey" 15 "AntTrails$Way" ∈ lw_tbl := mt1 (List.mem_of_getElem? (i := 179) rfl)
set_option maxRecDepth 100000 in
theorem wd_231 : Cond.methodLinkNest "AntTrails$Survey" 17 ⟨"AntTrails$Way", "<init>", "()V"⟩ "AntTrails" ∈ lw_tbl := mt1 (List.mem_of_getElem? (i := 180) rfl)
set_option maxRecDepth 100000 in
theorem wd_232 : Cond.fieldLink "AntTrails$Survey" 9 "AntTrails$Survey" "far" "[I" ∈ lw_tbl := mt1 (List.mem_of_getElem? (i := 181) rfl)
set_option maxRecDepth 100000 in
theorem wd_233 : Cond.fieldLink "AntTrails$Survey" 18 "AntTrails$Survey" "way" "LAntTrails$Way;" ∈ lw_tbl := mt1 (List.mem_of_getElem? (i := 182) rfl)
set_option maxRecDepth 100000 in
theorem wd_234 : Cond.fieldLinkNest "AntTrails" 177 "AntTrails$Survey" "way" "LAntTrails$Way;" "AntTrails" ∈ lw_tbl := mt1 (List.mem_of_getElem? (i := 183) rfl)
set_option maxRecDepth 100000 in
theorem wd_235 : Cond.laysFinal "AntTrails$Survey" "AntTrails$Survey" "far" "[I" ∈ lw_tbl := mt1 (List.mem_of_getElem? (i := 184) rfl)
set_option maxRecDepth 100000 in
theorem wd_237 : Cond.laysFinal "AntTrails$Survey" "AntTrails$Survey" "way" "LAntTrails$Way;" ∈ lw_tbl := mt1 (List.mem_of_getElem? (i := 186) rfl)
set_option maxRecDepth 100000 in
theorem wd_240 : Cond.classLink "AntTrails" 40 "AntTrails$Orders" ∈ lw_tbl := mt1 (List.mem_of_getElem? (i := 189) rfl)
set_option maxRecDepth 100000 in
theorem wd_241 : Cond.instantiable "AntTrails$Orders" 8 ∈ lw_tbl := mt1 (List.mem_of_getElem? (i := 190) rfl)
set_option maxRecDepth 100000 in
theorem wd_242 : Cond.methodLinkNest "AntTrails" 42 ⟨"AntTrails$Orders", "<init>", "()V"⟩ "AntTrails" ∈ lw_tbl := mt1 (List.mem_of_getElem? (i := 191) rfl)
set_option maxRecDepth 100000 in
theorem wd_243 : Cond.instanceMethod ⟨"AntTrails$Orders", "<init>", "()V"⟩ ∈ lw_tbl := mt1 (List.mem_of_getElem? (i := 192) rfl)
set_option maxRecDepth 100000 in
theorem wd_244 : Cond.code ⟨"AntTrails$Orders", "<init>", "()V"⟩ prog_5_method_1_code 1 none ∈ lw_tbl := mt1 (List.mem_of_getElem? (i := 193) rfl)
set_option maxRecDepth 100000 in
theorem wd_245 : Cond.methodLink "AntTrails$Orders" 3 ⟨"java/lang/Object", "<init>", "()V"⟩ ∈ lw_tbl := mt1 (List.mem_of_getElem? (i := 194) rfl)
set_option maxRecDepth 100000 in
theorem wd_246 : Cond.fieldLink "AntTrails$Orders" 9 "AntTrails$Orders" "signs" "[C" ∈ lw_tbl := mt1 (List.mem_of_getElem? (i := 195) rfl)
set_option maxRecDepth 100000 in
theorem wd_247 : Cond.fieldLink "AntTrails$Orders" 15 "AntTrails$Orders" "length" "I" ∈ lw_tbl := mt1 (List.mem_of_getElem? (i := 196) rfl)
set_option maxRecDepth 100000 in
theorem wd_248 : Cond.fieldLinkNest "AntTrails" 228 "AntTrails$Orders" "length" "I" "AntTrails" ∈ lw_tbl := mt1 (List.mem_of_getElem? (i := 197) rfl)
set_option maxRecDepth 100000 in
theorem wd_249 : Cond.fieldLink "AntTrails$Orders" 19 "AntTrails$Orders" "kind" "I" ∈ lw_tbl := mt1 (List.mem_of_getElem? (i := 198) rfl)
set_option maxRecDepth 100000 in
theorem wd_250 : Cond.fieldLink "AntTrails$Orders" 22 "AntTrails$Orders" "numbers" "[I" ∈ lw_tbl := mt1 (List.mem_of_getElem? (i := 199) rfl)
set_option maxRecDepth 100000 in
theorem wd_251 : Cond.fieldLink "AntTrails$Orders" 26 "AntTrails$Orders" "at" "I" ∈ lw_tbl := mt1 (List.mem_of_getElem? (i := 200) rfl)
set_option maxRecDepth 100000 in
theorem wd_252 : Cond.fieldLink "AntTrails$Orders" 29 "AntTrails$Orders" "faultReason" "I" ∈ lw_tbl := mt1 (List.mem_of_getElem? (i := 201) rfl)
set_option maxRecDepth 100000 in
theorem wd_253 : Cond.fieldLinkNest "AntTrails" 242 "AntTrails$Orders" "faultReason" "I" "AntTrails" ∈ lw_tbl := mt1 (List.mem_of_getElem? (i := 202) rfl)
set_option maxRecDepth 100000 in
theorem wd_254 : Cond.fieldLink "AntTrails$Orders" 32 "AntTrails$Orders" "faultPosition" "I" ∈ lw_tbl := mt1 (List.mem_of_getElem? (i := 203) rfl)
set_option maxRecDepth 100000 in
theorem wd_255 : Cond.fieldLinkNest "AntTrails" 245 "AntTrails$Orders" "faultPosition" "I" "AntTrails" ∈ lw_tbl := mt1 (List.mem_of_getElem? (i := 204) rfl)
set_option maxRecDepth 100000 in
theorem wd_256 : Cond.fieldLink "AntTrails$Orders" 35 "AntTrails$Orders" "faultCause" "I" ∈ lw_tbl := mt1 (List.mem_of_getElem? (i := 205) rfl)
set_option maxRecDepth 100000 in
theorem wd_257 : Cond.fieldLinkNest "AntTrails" 248 "AntTrails$Orders" "faultCause" "I" "AntTrails" ∈ lw_tbl := mt1 (List.mem_of_getElem? (i := 206) rfl)
set_option maxRecDepth 100000 in
theorem wd_258 : Cond.laysFinal "AntTrails$Orders" "AntTrails$Orders" "signs" "[C" ∈ lw_tbl := mt1 (List.mem_of_getElem? (i := 207) rfl)
set_option maxRecDepth 100000 in
theorem wd_260 : Cond.lays "AntTrails$Orders" "AntTrails$Orders" "length" "I" ∈ lw_tbl := mt1 (List.mem_of_getElem? (i := 209) rfl)
set_option maxRecDepth 100000 in
theorem wd_262 : Cond.lays "AntTrails$Orders" "AntTrails$Orders" "kind" "I" ∈ lw_tbl := mt1 (List.mem_of_getElem? (i := 211) rfl)
set_option maxRecDepth 100000 in
theorem wd_264 : Cond.laysFinal "AntTrails$Orders" "AntTrails$Orders" "numbers" "[I" ∈ lw_tbl := mt1 (List.mem_of_getElem? (i := 213) rfl)
set_option maxRecDepth 100000 in
theorem wd_266 : Cond.lays "AntTrails$Orders" "AntTrails$Orders" "at" "I" ∈ lw_tbl := mt1 (List.mem_of_getElem? (i := 215) rfl)
set_option maxRecDepth 100000 in
theorem wd_268 : Cond.lays "AntTrails$Orders" "AntTrails$Orders" "faultReason" "I" ∈ lw_tbl := mt1 (List.mem_of_getElem? (i := 217) rfl)
set_option maxRecDepth 100000 in
theorem wd_270 : Cond.lays "AntTrails$Orders" "AntTrails$Orders" "faultPosition" "I" ∈ lw_tbl := mt1 (List.mem_of_getElem? (i := 219) rfl)
set_option maxRecDepth 100000 in
theorem wd_272 : Cond.lays "AntTrails$Orders" "AntTrails$Orders" "faultCause" "I" ∈ lw_tbl := mt1 (List.mem_of_getElem? (i := 221) rfl)
set_option maxRecDepth 100000 in
theorem wd_275 : Cond.arrayClass .char ∈ lw_tbl := mt1 (List.mem_of_getElem? (i := 224) rfl)
set_option maxRecDepth 100000 in
theorem wd_276 : Cond.fieldLink "AntTrails" 10 "AntTrails" "now" "LAntTrails$Ground;" ∈ lw_tbl := mt1 (List.mem_of_getElem? (i := 225) rfl)
set_option maxRecDepth 100000 in
theorem wd_277 : Cond.fieldLink "AntTrails" 16 "AntTrails" "tried" "LAntTrails$Ground;" ∈ lw_tbl := mt1 (List.mem_of_getElem? (i := 226) rfl)
set_option maxRecDepth 100000 in
theorem wd_278 : Cond.fieldLink "AntTrails" 22 "AntTrails" "history" "LAntTrails$History;" ∈ lw_tbl := mt1 (List.mem_of_getElem? (i := 227) rfl)
set_option maxRecDepth 100000 in
theorem wd_279 : Cond.fieldLink "AntTrails" 29 "AntTrails" "colony" "LAntTrails$Colony;" ∈ lw_tbl := mt1 (List.mem_of_getElem? (i := 228) rfl)
set_option maxRecDepth 100000 in
theorem wd_280 : Cond.fieldLink "AntTrails" 36 "AntTrails" "survey" "LAntTrails$Survey;" ∈ lw_tbl := mt1 (List.mem_of_getElem? (i := 229) rfl)
set_option maxRecDepth 100000 in
theorem wd_281 : Cond.fieldLink "AntTrails" 43 "AntTrails" "orders" "LAntTrails$Orders;" ∈ lw_tbl := mt1 (List.mem_of_getElem? (i := 230) rfl)
set_option maxRecDepth 100000 in
theorem wd_282 : Cond.laysFinal "AntTrails" "AntTrails" "now" "LAntTrails$Ground;" ∈ lw_tbl := mt1 (List.mem_of_getElem? (i := 231) rfl)
set_option maxRecDepth 100000 in
theorem wd_284 : Cond.laysFinal "AntTrails" "AntTrails" "tried" "LAntTrails$Ground;" ∈ lw_tbl := mt1 (List.mem_of_getElem? (i := 233) rfl)
set_option maxRecDepth 100000 in
theorem wd_286 : Cond.laysFinal "AntTrails" "AntTrails" "history" "LAntTrails$History;" ∈ lw_tbl := mt1 (List.mem_of_getElem? (i := 235) rfl)
set_option maxRecDepth 100000 in
theorem wd_288 : Cond.laysFinal "AntTrails" "AntTrails" "colony" "LAntTrails$Colony;" ∈ lw_tbl := mt1 (List.mem_of_getElem? (i := 237) rfl)
set_option maxRecDepth 100000 in
theorem wd_290 : Cond.laysFinal "AntTrails" "AntTrails" "survey" "LAntTrails$Survey;" ∈ lw_tbl := mt1 (List.mem_of_getElem? (i := 239) rfl)
set_option maxRecDepth 100000 in
theorem wd_292 : Cond.laysFinal "AntTrails" "AntTrails" "orders" "LAntTrails$Orders;" ∈ lw_tbl := mt2 (List.mem_of_getElem? (i := 1) rfl)
set_option maxRecDepth 100000 in
theorem wd_295 : Cond.methodLink "AntTrailsLaw" 13 ⟨"AntTrails", "place", "()I"⟩ ∈ lw_tbl := mt2 (List.mem_of_getElem? (i := 4) rfl)
set_option maxRecDepth 100000 in
theorem wd_296 : Cond.instanceMethod ⟨"AntTrails", "place", "()I"⟩ ∈ lw_tbl := mt2 (List.mem_of_getElem? (i := 5) rfl)
set_option maxRecDepth 100000 in
theorem wd_297 : Cond.selects "AntTrails" ⟨"AntTrails", "place", "()I"⟩ ⟨"AntTrails", "place", "()I"⟩ ∈ lw_tbl := mt2 (List.mem_of_getElem? (i := 6) rfl)
set_option maxRecDepth 100000 in
theorem wd_298 : Cond.code ⟨"AntTrails", "place", "()I"⟩ prog_1_method_2_code 1 (some .int) ∈ lw_tbl := mt2 (List.mem_of_getElem? (i := 7) rfl)
set_option maxRecDepth 100000 in
theorem wd_299 : Cond.methodLink "AntTrails" 47 ⟨"AntTrails$History", "prepare", "(LAntTrails$Ground;)V"⟩ ∈ lw_tbl := mt2 (List.mem_of_getElem? (i := 8) rfl)
set_option maxRecDepth 100000 in
theorem wd_300 : Cond.instanceMethod ⟨"AntTrails$History", "prepare", "(LAntTrails$Ground;)V"⟩ ∈ lw_tbl := mt2 (List.mem_of_getElem? (i := 9) rfl)
set_option maxRecDepth 100000 in
theorem wd_301 : Cond.selects "AntTrails$History" ⟨"AntTrails$History", "prepare", "(LAntTrails$Ground;)V"⟩ ⟨"AntTrails$History", "prepare", "(LAntTrails$Ground;)V"⟩ ∈ lw_tbl := mt2 (List.mem_of_getElem? (i := 10) rfl)
set_option maxRecDepth 100000 in
theorem wd_302 : Cond.code ⟨"AntTrails$History", "prepare", "(LAntTrails$Ground;)V"⟩ prog_4_method_2_code 2 none ∈ lw_tbl := mt2 (List.mem_of_getElem? (i := 11) rfl)
set_option maxRecDepth 100000 in
theorem wd_303 : Cond.methodLink "AntTrails$History" 22 ⟨"AntTrails$Ground", "copy", "(LAntTrails$Ground;LAntTrails$Ground;)V"⟩ ∈ lw_tbl := mt2 (List.mem_of_getElem? (i := 12) rfl)
set_option maxRecDepth 100000 in
theorem wd_304 : Cond.static ⟨"AntTrails$Ground", "copy", "(LAntTrails$Ground;LAntTrails$Ground;)V"⟩ ∈ lw_tbl := mt2 (List.mem_of_getElem? (i := 13) rfl)
set_option maxRecDepth 100000 in
theorem wd_305 : Cond.code ⟨"AntTrails$Ground", "copy", "(LAntTrails$Ground;LAntTrails$Ground;)V"⟩ prog_3_method_2_code 2 none ∈ lw_tbl := mt2 (List.mem_of_getElem? (i := 14) rfl)
set_option maxRecDepth 100000 in
theorem wd_306 : Cond.methodLink "AntTrails$Ground" 75 ⟨"AntTrails$Way", "copy", "(LAntTrails$Way;LAntTrails$Way;)V"⟩ ∈ lw_tbl := mt2 (List.mem_of_getElem? (i := 15) rfl)
set_option maxRecDepth 100000 in
theorem wd_307 : Cond.static ⟨"AntTrails$Way", "copy", "(LAntTrails$Way;LAntTrails$Way;)V"⟩ ∈ lw_tbl := mt2 (List.mem_of_getElem? (i := 16) rfl)
set_option maxRecDepth 100000 in
theorem wd_308 : Cond.code ⟨"AntTrails$Way", "copy", "(LAntTrails$Way;LAntTrails$Way;)V"⟩ prog_7_method_9_code 2 none ∈ lw_tbl := mt2 (List.mem_of_getElem? (i := 17) rfl)
set_option maxRecDepth 100000 in
theorem wd_309 : Cond.methodLinkNest "AntTrails$Way" 36 ⟨"AntTrails", "copyRow", "([I[I)V"⟩ "AntTrails" ∈ lw_tbl := mt2 (List.mem_of_getElem? (i := 18) rfl)
set_option maxRecDepth 100000 in
theorem wd_310 : Cond.methodLink "AntTrails" 51 ⟨"AntTrails$Ground", "addPlace", "()I"⟩ ∈ lw_tbl := mt2 (List.mem_of_getElem? (i := 19) rfl)
set_option maxRecDepth 100000 in
theorem wd_311 : Cond.instanceMethod ⟨"AntTrails$Ground", "addPlace", "()I"⟩ ∈ lw_tbl := mt2 (List.mem_of_getElem? (i := 20) rfl)
set_option maxRecDepth 100000 in
theorem wd_312 : Cond.selects "AntTrails$Ground" ⟨"AntTrails$Ground", "addPlace", "()I"⟩ ⟨"AntTrails$Ground", "addPlace", "()I"⟩ ∈ lw_tbl := mt2 (List.mem_of_getElem? (i := 21) rfl)
set_option maxRecDepth 100000 in
theorem wd_313 : Cond.code ⟨"AntTrails$Ground", "addPlace", "()I"⟩ prog_3_method_17_code 1 (some .int) ∈ lw_tbl := mt2 (List.mem_of_getElem? (i := 22) rfl)
set_option maxRecDepth 100000 in
theorem wd_314 : Cond.constant "AntTrails$Ground" 102 (-1000000003) ∈ lw_tbl := mt2 (List.mem_of_getElem? (i := 23) rfl)
set_option maxRecDepth 100000 in
theorem wd_315 : Cond.methodLink "AntTrails" 55 ⟨"AntTrails$History", "settle", "(I)I"⟩ ∈ lw_tbl := mt2 (List.mem_of_getElem? (i := 24) rfl)
set_option maxRecDepth 100000 in
theorem wd_316 : Cond.instanceMethod ⟨"AntTrails$History", "settle", "(I)I"⟩ ∈ lw_tbl := mt2 (List.mem_of_getElem? (i := 25) rfl)
set_option maxRecDepth 100000 in
theorem wd_317 : Cond.selects "AntTrails$History" ⟨"AntTrails$History", "settle", "(I)I"⟩ ⟨"AntTrails$History", "settle", "(I)I"⟩ ∈ lw_tbl := mt2 (List.mem_of_getElem? (i := 26) rfl)
set_option maxRecDepth 100000 in
theorem wd_318 : Cond.code ⟨"AntTrails$History", "settle", "(I)I"⟩ prog_4_method_3_code 2 (some .int) ∈ lw_tbl := mt2 (List.mem_of_getElem? (i := 27) rfl)
set_option maxRecDepth 100000 in
theorem wd_319 : Cond.methodLinkNest "AntTrails$History" 26 ⟨"AntTrails", "isError", "(I)Z"⟩ "AntTrails" ∈ lw_tbl := mt2 (List.mem_of_getElem? (i := 28) rfl)
set_option maxRecDepth 100000 in
theorem wd_320 : Cond.static ⟨"AntTrails", "isError", "(I)Z"⟩ ∈ lw_tbl := mt2 (List.mem_of_getElem? (i := 29) rfl)
set_option maxRecDepth 100000 in
theorem wd_321 : Cond.code ⟨"AntTrails", "isError", "(I)Z"⟩ prog_1_method_25_code 1 (some .boolean) ∈ lw_tbl := mt2 (List.mem_of_getElem? (i := 30) rfl)
set_option maxRecDepth 100000 in
theorem wd_322 : Cond.constant "AntTrails" 85 (-1000000001) ∈ lw_tbl := mt2 (List.mem_of_getElem? (i := 31) rfl)
set_option maxRecDepth 100000 in
theorem wd_323 : Cond.methodLink "AntTrails$History" 30 ⟨"AntTrails$History", "dropOldest", "()V"⟩ ∈ lw_tbl := mt2 (List.mem_of_getElem? (i := 32) rfl)
set_option maxRecDepth 100000 in
theorem wd_325 : Cond.instanceMethod ⟨"AntTrails$History", "dropOldest", "()V"⟩ ∈ lw_tbl := mt2 (List.mem_of_getElem? (i := 34) rfl)
set_option maxRecDepth 100000 in
theorem wd_326 : Cond.code ⟨"AntTrails$History", "dropOldest", "()V"⟩ prog_4_method_4_code 3 none ∈ lw_tbl := mt2 (List.mem_of_getElem? (i := 35) rfl)
set_option maxRecDepth 100000 in
theorem wd_327 : Cond.methodLink "AntTrailsLaw" 18 ⟨"AntTrails", "path", "(III)I"⟩ ∈ lw_tbl := mt2 (List.mem_of_getElem? (i := 36) rfl)
set_option maxRecDepth 100000 in
theorem wd_328 : Cond.instanceMethod ⟨"AntTrails", "path", "(III)I"⟩ ∈ lw_tbl := mt2 (List.mem_of_getElem? (i := 37) rfl)
set_option maxRecDepth 100000 in
theorem wd_329 : Cond.selects "AntTrails" ⟨"AntTrails", "path", "(III)I"⟩ ⟨"AntTrails", "path", "(III)I"⟩ ∈ lw_tbl := mt2 (List.mem_of_getElem? (i := 38) rfl)
set_option maxRecDepth 100000 in
theorem wd_330 : Cond.code ⟨"AntTrails", "path", "(III)I"⟩ prog_1_method_3_code 4 (some .int) ∈ lw_tbl := mt2 (List.mem_of_getElem? (i := 39) rfl)
set_option maxRecDepth 100000 in
theorem wd_331 : Cond.methodLink "AntTrails" 59 ⟨"AntTrails$Ground", "addPath", "(III)I"⟩ ∈ lw_tbl := mt2 (List.mem_of_getElem? (i := 40) rfl)
set_option maxRecDepth 100000 in
theorem wd_332 : Cond.instanceMethod ⟨"AntTrails$Ground", "addPath", "(III)I"⟩ ∈ lw_tbl := mt2 (List.mem_of_getElem? (i := 41) rfl)
set_option maxRecDepth 100000 in
theorem wd_333 : Cond.selects "AntTrails$Ground" ⟨"AntTrails$Ground", "addPath", "(III)I"⟩ ⟨"AntTrails$Ground", "addPath", "(III)I"⟩ ∈ lw_tbl := mt2 (List.mem_of_getElem? (i := 42) rfl)
set_option maxRecDepth 100000 in
theorem wd_334 : Cond.code ⟨"AntTrails$Ground", "addPath", "(III)I"⟩ prog_3_method_18_code 5 (some .int) ∈ lw_tbl := mt2 (List.mem_of_getElem? (i := 43) rfl)
set_option maxRecDepth 100000 in
theorem wd_335 : Cond.methodLink "AntTrails$Ground" 103 ⟨"AntTrails$Ground", "isPlace", "(I)Z"⟩ ∈ lw_tbl := mt2 (List.mem_of_getElem? (i := 44) rfl)
set_option maxRecDepth 100000 in
theorem wd_336 : Cond.instanceMethod ⟨"AntTrails$Ground", "isPlace", "(I)Z"⟩ ∈ lw_tbl := mt2 (List.mem_of_getElem? (i := 45) rfl)
set_option maxRecDepth 100000 in
theorem wd_337 : Cond.selects "AntTrails$Ground" ⟨"AntTrails$Ground", "isPlace", "(I)Z"⟩ ⟨"AntTrails$Ground", "isPlace", "(I)Z"⟩ ∈ lw_tbl := mt2 (List.mem_of_getElem? (i := 46) rfl)
set_option maxRecDepth 100000 in
theorem wd_338 : Cond.code ⟨"AntTrails$Ground", "isPlace", "(I)Z"⟩ prog_3_method_3_code 2 (some .boolean) ∈ lw_tbl := mt2 (List.mem_of_getElem? (i := 47) rfl)
set_option maxRecDepth 100000 in
theorem wd_339 : Cond.methodLinkNest "AntTrails$Ground" 106 ⟨"AntTrails", "isWithin", "(III)Z"⟩ "AntTrails" ∈ lw_tbl := mt2 (List.mem_of_getElem? (i := 48) rfl)
set_option maxRecDepth 100000 in
theorem wd_340 : Cond.static ⟨"AntTrails", "isWithin", "(III)Z"⟩ ∈ lw_tbl := mt2 (List.mem_of_getElem? (i := 49) rfl)
set_option maxRecDepth 100000 in
theorem wd_341 : Cond.code ⟨"AntTrails", "isWithin", "(III)Z"⟩ prog_1_method_24_code 3 (some .boolean) ∈ lw_tbl := mt2 (List.mem_of_getElem? (i := 50) rfl)
set_option maxRecDepth 100000 in
theorem wd_342 : Cond.constant "AntTrails$Ground" 110 (-1000000001) ∈ lw_tbl := mt2 (List.mem_of_getElem? (i := 51) rfl)
set_option maxRecDepth 100000 in
theorem wd_343 : Cond.methodLink "AntTrails$Ground" 111 ⟨"AntTrails$Ground", "setting", "(I)I"⟩ ∈ lw_tbl := mt2 (List.mem_of_getElem? (i := 52) rfl)
set_option maxRecDepth 100000 in
theorem wd_344 : Cond.instanceMethod ⟨"AntTrails$Ground", "setting", "(I)I"⟩ ∈ lw_tbl := mt2 (List.mem_of_getElem? (i := 53) rfl)
set_option maxRecDepth 100000 in
theorem wd_345 : Cond.selects "AntTrails$Ground" ⟨"AntTrails$Ground", "setting", "(I)I"⟩ ⟨"AntTrails$Ground", "setting", "(I)I"⟩ ∈ lw_tbl := mt2 (List.mem_of_getElem? (i := 54) rfl)
set_option maxRecDepth 100000 in
theorem wd_346 : Cond.code ⟨"AntTrails$Ground", "setting", "(I)I"⟩ prog_3_method_8_code 2 (some .int) ∈ lw_tbl := mt2 (List.mem_of_getElem? (i := 55) rfl)
set_option maxRecDepth 100000 in
theorem wd_347 : Cond.methodLink "AntTrailsLaw" 23 ⟨"AntTrails", "close", "(IZ)I"⟩ ∈ lw_tbl := mt2 (List.mem_of_getElem? (i := 56) rfl)
set_option maxRecDepth 100000 in
theorem wd_348 : Cond.instanceMethod ⟨"AntTrails", "close", "(IZ)I"⟩ ∈ lw_tbl := mt2 (List.mem_of_getElem? (i := 57) rfl)
set_option maxRecDepth 100000 in
theorem wd_349 : Cond.selects "AntTrails" ⟨"AntTrails", "close", "(IZ)I"⟩ ⟨"AntTrails", "close", "(IZ)I"⟩ ∈ lw_tbl := mt2 (List.mem_of_getElem? (i := 58) rfl)
set_option maxRecDepth 100000 in
theorem wd_350 : Cond.code ⟨"AntTrails", "close", "(IZ)I"⟩ prog_1_method_4_code 3 (some .int) ∈ lw_tbl := mt2 (List.mem_of_getElem? (i := 59) rfl)
set_option maxRecDepth 100000 in
theorem wd_351 : Cond.methodLink "AntTrails" 63 ⟨"AntTrails$Ground", "bar", "(IZ)I"⟩ ∈ lw_tbl := mt2 (List.mem_of_getElem? (i := 60) rfl)
set_option maxRecDepth 100000 in
theorem wd_352 : Cond.instanceMethod ⟨"AntTrails$Ground", "bar", "(IZ)I"⟩ ∈ lw_tbl := mt2 (List.mem_of_getElem? (i := 61) rfl)
set_option maxRecDepth 100000 in
theorem wd_353 : Cond.selects "AntTrails$Ground" ⟨"AntTrails$Ground", "bar", "(IZ)I"⟩ ⟨"AntTrails$Ground", "bar", "(IZ)I"⟩ ∈ lw_tbl := mt2 (List.mem_of_getElem? (i := 62) rfl)
set_option maxRecDepth 100000 in
theorem wd_354 : Cond.code ⟨"AntTrails$Ground", "bar", "(IZ)I"⟩ prog_3_method_19_code 3 (some .int) ∈ lw_tbl := mt2 (List.mem_of_getElem? (i := 63) rfl)
set_option maxRecDepth 100000 in
theorem wd_355 : Cond.methodLink "AntTrails$Ground" 82 ⟨"AntTrails$Ground", "isPath", "(I)Z"⟩ ∈ lw_tbl := mt2 (List.mem_of_getElem? (i := 64) rfl)
set_option maxRecDepth 100000 in
theorem wd_356 : Cond.instanceMethod ⟨"AntTrails$Ground", "isPath", "(I)Z"⟩ ∈ lw_tbl := mt2 (List.mem_of_getElem? (i := 65) rfl)
set_option maxRecDepth 100000 in
theorem wd_357 : Cond.selects "AntTrails$Ground" ⟨"AntTrails$Ground", "isPath", "(I)Z"⟩ ⟨"AntTrails$Ground", "isPath", "(I)Z"⟩ ∈ lw_tbl := mt2 (List.mem_of_getElem? (i := 66) rfl)
set_option maxRecDepth 100000 in
theorem wd_358 : Cond.code ⟨"AntTrails$Ground", "isPath", "(I)Z"⟩ prog_3_method_4_code 2 (some .boolean) ∈ lw_tbl := mt2 (List.mem_of_getElem? (i := 67) rfl)
set_option maxRecDepth 100000 in
theorem wd_359 : Cond.methodLink "AntTrails$Ground" 86 ⟨"AntTrails$Ground", "isClosed", "(I)Z"⟩ ∈ lw_tbl := mt2 (List.mem_of_getElem? (i := 68) rfl)
set_option maxRecDepth 100000 in
theorem wd_360 : Cond.instanceMethod ⟨"AntTrails$Ground", "isClosed", "(I)Z"⟩ ∈ lw_tbl := mt2 (List.mem_of_getElem? (i := 69) rfl)
set_option maxRecDepth 100000 in
theorem wd_361 : Cond.selects "AntTrails$Ground" ⟨"AntTrails$Ground", "isClosed", "(I)Z"⟩ ⟨"AntTrails$Ground", "isClosed", "(I)Z"⟩ ∈ lw_tbl := mt2 (List.mem_of_getElem? (i := 70) rfl)
set_option maxRecDepth 100000 in
theorem wd_362 : Cond.code ⟨"AntTrails$Ground", "isClosed", "(I)Z"⟩ prog_3_method_7_code 2 (some .boolean) ∈ lw_tbl := mt2 (List.mem_of_getElem? (i := 71) rfl)
set_option maxRecDepth 100000 in
theorem wd_363 : Cond.constant "AntTrails$Ground" 114 (-1000000002) ∈ lw_tbl := mt2 (List.mem_of_getElem? (i := 72) rfl)
set_option maxRecDepth 100000 in
theorem wd_364 : Cond.methodLink "AntTrails$Ground" 115 ⟨"AntTrails$Ground", "openPaths", "()I"⟩ ∈ lw_tbl := mt2 (List.mem_of_getElem? (i := 73) rfl)
set_option maxRecDepth 100000 in
theorem wd_365 : Cond.instanceMethod ⟨"AntTrails$Ground", "openPaths", "()I"⟩ ∈ lw_tbl := mt2 (List.mem_of_getElem? (i := 74) rfl)
set_option maxRecDepth 100000 in
theorem wd_366 : Cond.selects "AntTrails$Ground" ⟨"AntTrails$Ground", "openPaths", "()I"⟩ ⟨"AntTrails$Ground", "openPaths", "()I"⟩ ∈ lw_tbl := mt2 (List.mem_of_getElem? (i := 75) rfl)
set_option maxRecDepth 100000 in
theorem wd_367 : Cond.code ⟨"AntTrails$Ground", "openPaths", "()I"⟩ prog_3_method_12_code 3 (some .int) ∈ lw_tbl := mt2 (List.mem_of_getElem? (i := 76) rfl)
set_option maxRecDepth 100000 in
theorem wd_368 : Cond.methodLink "AntTrailsLaw" 28 ⟨"AntTrails", "food", "(I)I"⟩ ∈ lw_tbl := mt2 (List.mem_of_getElem? (i := 77) rfl)
set_option maxRecDepth 100000 in
theorem wd_369 : Cond.instanceMethod ⟨"AntTrails", "food", "(I)I"⟩ ∈ lw_tbl := mt2 (List.mem_of_getElem? (i := 78) rfl)
set_option maxRecDepth 100000 in
theorem wd_370 : Cond.selects "AntTrails" ⟨"AntTrails", "food", "(I)I"⟩ ⟨"AntTrails", "food", "(I)I"⟩ ∈ lw_tbl := mt2 (List.mem_of_getElem? (i := 79) rfl)
set_option maxRecDepth 100000 in
theorem wd_371 : Cond.code ⟨"AntTrails", "food", "(I)I"⟩ prog_1_method_5_code 2 (some .int) ∈ lw_tbl := mt2 (List.mem_of_getElem? (i := 80) rfl)
set_option maxRecDepth 100000 in
theorem wd_372 : Cond.methodLink "AntTrails" 67 ⟨"AntTrails$Ground", "moveFood", "(I)I"⟩ ∈ lw_tbl := mt2 (List.mem_of_getElem? (i := 81) rfl)
set_option maxRecDepth 100000 in
theorem wd_373 : Cond.instanceMethod ⟨"AntTrails$Ground", "moveFood", "(I)I"⟩ ∈ lw_tbl := mt2 (List.mem_of_getElem? (i := 82) rfl)
set_option maxRecDepth 100000 in
theorem wd_374 : Cond.selects "AntTrails$Ground" ⟨"AntTrails$Ground", "moveFood", "(I)I"⟩ ⟨"AntTrails$Ground", "moveFood", "(I)I"⟩ ∈ lw_tbl := mt2 (List.mem_of_getElem? (i := 83) rfl)
set_option maxRecDepth 100000 in
theorem wd_375 : Cond.code ⟨"AntTrails$Ground", "moveFood", "(I)I"⟩ prog_3_method_20_code 3 (some .int) ∈ lw_tbl := mt2 (List.mem_of_getElem? (i := 84) rfl)
set_option maxRecDepth 100000 in
theorem wd_376 : Cond.methodLink "AntTrails$Ground" 119 ⟨"AntTrails$Way", "begin", "()V"⟩ ∈ lw_tbl := mt2 (List.mem_of_getElem? (i := 85) rfl)
set_option maxRecDepth 100000 in
theorem wd_377 : Cond.instanceMethod ⟨"AntTrails$Way", "begin", "()V"⟩ ∈ lw_tbl := mt2 (List.mem_of_getElem? (i := 86) rfl)
set_option maxRecDepth 100000 in
theorem wd_378 : Cond.selects "AntTrails$Way" ⟨"AntTrails$Way", "begin", "()V"⟩ ⟨"AntTrails$Way", "begin", "()V"⟩ ∈ lw_tbl := mt2 (List.mem_of_getElem? (i := 87) rfl)
set_option maxRecDepth 100000 in
theorem wd_379 : Cond.code ⟨"AntTrails$Way", "begin", "()V"⟩ prog_7_method_2_code 1 none ∈ lw_tbl := mt2 (List.mem_of_getElem? (i := 88) rfl)
set_option maxRecDepth 100000 in
theorem wd_380 : Cond.methodLink "AntTrailsLaw" 33 ⟨"AntTrails", "lap", "(I)I"⟩ ∈ lw_tbl := mt2 (List.mem_of_getElem? (i := 89) rfl)
set_option maxRecDepth 100000 in
theorem wd_381 : Cond.instanceMethod ⟨"AntTrails", "lap", "(I)I"⟩ ∈ lw_tbl := mt2 (List.mem_of_getElem? (i := 90) rfl)
set_option maxRecDepth 100000 in
theorem wd_382 : Cond.selects "AntTrails" ⟨"AntTrails", "lap", "(I)I"⟩ ⟨"AntTrails", "lap", "(I)I"⟩ ∈ lw_tbl := mt2 (List.mem_of_getElem? (i := 91) rfl)
set_option maxRecDepth 100000 in
theorem wd_383 : Cond.code ⟨"AntTrails", "lap", "(I)I"⟩ prog_1_method_6_code 2 (some .int) ∈ lw_tbl := mt2 (List.mem_of_getElem? (i := 92) rfl)
set_option maxRecDepth 100000 in
theorem wd_384 : Cond.methodLink "AntTrails" 70 ⟨"AntTrails$Colony", "passLaps", "(LAntTrails$Ground;I)I"⟩ ∈ lw_tbl := mt2 (List.mem_of_getElem? (i := 93) rfl)
set_option maxRecDepth 100000 in
theorem wd_385 : Cond.instanceMethod ⟨"AntTrails$Colony", "passLaps", "(LAntTrails$Ground;I)I"⟩ ∈ lw_tbl := mt2 (List.mem_of_getElem? (i := 94) rfl)
set_option maxRecDepth 100000 in
theorem wd_386 : Cond.selects "AntTrails$Colony" ⟨"AntTrails$Colony", "passLaps", "(LAntTrails$Ground;I)I"⟩ ⟨"AntTrails$Colony", "passLaps", "(LAntTrails$Ground;I)I"⟩ ∈ lw_tbl := mt2 (List.mem_of_getElem? (i := 95) rfl)
set_option maxRecDepth 100000 in
theorem wd_387 : Cond.code ⟨"AntTrails$Colony", "passLaps", "(LAntTrails$Ground;I)I"⟩ prog_2_method_2_code 8 (some .int) ∈ lw_tbl := mt2 (List.mem_of_getElem? (i := 96) rfl)
set_option maxRecDepth 100000 in
theorem wd_388 : Cond.methodLinkNest "AntTrails$Colony" 25 ⟨"AntTrails", "isWithin", "(III)Z"⟩ "AntTrails" ∈ lw_tbl := mt2 (List.mem_of_getElem? (i := 97) rfl)
set_option maxRecDepth 100000 in
theorem wd_389 : Cond.constant "AntTrails$Colony" 29 (-1000000001) ∈ lw_tbl := mt2 (List.mem_of_getElem? (i := 98) rfl)
set_option maxRecDepth 100000 in
theorem wd_390 : Cond.methodLink "AntTrails$Colony" 30 ⟨"AntTrails$Ground", "hasFood", "()Z"⟩ ∈ lw_tbl := mt2 (List.mem_of_getElem? (i := 99) rfl)
set_option maxRecDepth 100000 in
theorem wd_391 : Cond.instanceMethod ⟨"AntTrails$Ground", "hasFood", "()Z"⟩ ∈ lw_tbl := mt2 (List.mem_of_getElem? (i := 100) rfl)
set_option maxRecDepth 100000 in
theorem wd_392 : Cond.selects "AntTrails$Ground" ⟨"AntTrails$Ground", "hasFood", "()Z"⟩ ⟨"AntTrails$Ground", "hasFood", "()Z"⟩ ∈ lw_tbl := mt2 (List.mem_of_getElem? (i := 101) rfl)
set_option maxRecDepth 100000 in
theorem wd_393 : Cond.code ⟨"AntTrails$Ground", "hasFood", "()Z"⟩ prog_3_method_5_code 1 (some .boolean) ∈ lw_tbl := mt2 (List.mem_of_getElem? (i := 102) rfl)
set_option maxRecDepth 100000 in
theorem wd_394 : Cond.constant "AntTrails$Colony" 36 (-1000000002) ∈ lw_tbl := mt2 (List.mem_of_getElem? (i := 103) rfl)
set_option maxRecDepth 100000 in
theorem wd_395 : Cond.methodLink "AntTrails$Colony" 40 ⟨"AntTrails$Ground", "setting", "(I)I"⟩ ∈ lw_tbl := mt2 (List.mem_of_getElem? (i := 104) rfl)
set_option maxRecDepth 100000 in
theorem wd_396 : Cond.methodLink "AntTrails$Colony" 44 ⟨"AntTrails$Colony", "clearLaid", "()V"⟩ ∈ lw_tbl := mt2 (List.mem_of_getElem? (i := 105) rfl)
set_option maxRecDepth 100000 in
theorem wd_398 : Cond.instanceMethod ⟨"AntTrails$Colony", "clearLaid", "()V"⟩ ∈ lw_tbl := mt2 (List.mem_of_getElem? (i := 107) rfl)
set_option maxRecDepth 100000 in
theorem wd_399 : Cond.code ⟨"AntTrails$Colony", "clearLaid", "()V"⟩ prog_2_method_3_code 2 none ∈ lw_tbl := mt2 (List.mem_of_getElem? (i := 108) rfl)
set_option maxRecDepth 100000 in
theorem wd_400 : Cond.methodLink "AntTrails$Colony" 47 ⟨"AntTrails$Colony", "walk", "(LAntTrails$Ground;)I"⟩ ∈ lw_tbl := mt2 (List.mem_of_getElem? (i := 109) rfl)
set_option maxRecDepth 100000 in
theorem wd_401 : Cond.instanceMethod ⟨"AntTrails$Colony", "walk", "(LAntTrails$Ground;)I"⟩ ∈ lw_tbl := mt2 (List.mem_of_getElem? (i := 110) rfl)
set_option maxRecDepth 100000 in
theorem wd_402 : Cond.selects "AntTrails$Colony" ⟨"AntTrails$Colony", "walk", "(LAntTrails$Ground;)I"⟩ ⟨"AntTrails$Colony", "walk", "(LAntTrails$Ground;)I"⟩ ∈ lw_tbl := mt2 (List.mem_of_getElem? (i := 111) rfl)
set_option maxRecDepth 100000 in
theorem wd_403 : Cond.code ⟨"AntTrails$Colony", "walk", "(LAntTrails$Ground;)I"⟩ prog_2_method_5_code 6 (some .int) ∈ lw_tbl := mt2 (List.mem_of_getElem? (i := 112) rfl)
set_option maxRecDepth 100000 in
theorem wd_404 : Cond.methodLink "AntTrails$Colony" 79 ⟨"AntTrails$Way", "begin", "()V"⟩ ∈ lw_tbl := mt2 (List.mem_of_getElem? (i := 113) rfl)
set_option maxRecDepth 100000 in
theorem wd_405 : Cond.methodLink "AntTrails$Colony" 82 ⟨"AntTrails$Way", "end", "()I"⟩ ∈ lw_tbl := mt2 (List.mem_of_getElem? (i := 114) rfl)
set_option maxRecDepth 100000 in
theorem wd_406 : Cond.instanceMethod ⟨"AntTrails$Way", "end", "()I"⟩ ∈ lw_tbl := mt2 (List.mem_of_getElem? (i := 115) rfl)
set_option maxRecDepth 100000 in
theorem wd_407 : Cond.selects "AntTrails$Way" ⟨"AntTrails$Way", "end", "()I"⟩ ⟨"AntTrails$Way", "end", "()I"⟩ ∈ lw_tbl := mt2 (List.mem_of_getElem? (i := 116) rfl)
set_option maxRecDepth 100000 in
theorem wd_408 : Cond.code ⟨"AntTrails$Way", "end", "()I"⟩ prog_7_method_5_code 1 (some .int) ∈ lw_tbl := mt2 (List.mem_of_getElem? (i := 117) rfl)
set_option maxRecDepth 100000 in
theorem wd_409 : Cond.methodLink "AntTrails$Way" 28 ⟨"AntTrails$Way", "placeAt", "(I)I"⟩ ∈ lw_tbl := mt2 (List.mem_of_getElem? (i := 118) rfl)
set_option maxRecDepth 100000 in
theorem wd_410 : Cond.instanceMethod ⟨"AntTrails$Way", "placeAt", "(I)I"⟩ ∈ lw_tbl := mt2 (List.mem_of_getElem? (i := 119) rfl)
set_option maxRecDepth 100000 in
theorem wd_411 : Cond.selects "AntTrails$Way" ⟨"AntTrails$Way", "placeAt", "(I)I"⟩ ⟨"AntTrails$Way", "placeAt", "(I)I"⟩ ∈ lw_tbl := mt2 (List.mem_of_getElem? (i := 120) rfl)
set_option maxRecDepth 100000 in
theorem wd_412 : Cond.code ⟨"AntTrails$Way", "placeAt", "(I)I"⟩ prog_7_method_4_code 2 (some .int) ∈ lw_tbl := mt2 (List.mem_of_getElem? (i := 121) rfl)
set_option maxRecDepth 100000 in
theorem wd_413 : Cond.methodLink "AntTrails$Colony" 89 ⟨"AntTrails$Colony", "lookAhead", "(LAntTrails$Ground;)I"⟩ ∈ lw_tbl := mt2 (List.mem_of_getElem? (i := 122) rfl)
set_option maxRecDepth 100000 in
theorem wd_415 : Cond.instanceMethod ⟨"AntTrails$Colony", "lookAhead", "(LAntTrails$Ground;)I"⟩ ∈ lw_tbl := mt2 (List.mem_of_getElem? (i := 124) rfl)
set_option maxRecDepth 100000 in
theorem wd_416 : Cond.code ⟨"AntTrails$Colony", "lookAhead", "(LAntTrails$Ground;)I"⟩ prog_2_method_6_code 5 (some .int) ∈ lw_tbl := mt2 (List.mem_of_getElem? (i := 125) rfl)
set_option maxRecDepth 100000 in
theorem wd_417 : Cond.methodLink "AntTrails$Colony" 105 ⟨"AntTrails$Ground", "across", "(II)I"⟩ ∈ lw_tbl := mt2 (List.mem_of_getElem? (i := 126) rfl)
set_option maxRecDepth 100000 in
theorem wd_418 : Cond.instanceMethod ⟨"AntTrails$Ground", "across", "(II)I"⟩ ∈ lw_tbl := mt2 (List.mem_of_getElem? (i := 127) rfl)
set_option maxRecDepth 100000 in
theorem wd_419 : Cond.selects "AntTrails$Ground" ⟨"AntTrails$Ground", "across", "(II)I"⟩ ⟨"AntTrails$Ground", "across", "(II)I"⟩ ∈ lw_tbl := mt2 (List.mem_of_getElem? (i := 128) rfl)
set_option maxRecDepth 100000 in
theorem wd_420 : Cond.code ⟨"AntTrails$Ground", "across", "(II)I"⟩ prog_3_method_11_code 3 (some .int) ∈ lw_tbl := mt2 (List.mem_of_getElem? (i := 129) rfl)
set_option maxRecDepth 100000 in
theorem wd_421 : Cond.methodLink "AntTrails$Colony" 116 ⟨"AntTrails$Way", "isNew", "(I)Z"⟩ ∈ lw_tbl := mt2 (List.mem_of_getElem? (i := 130) rfl)
set_option maxRecDepth 100000 in
theorem wd_422 : Cond.instanceMethod ⟨"AntTrails$Way", "isNew", "(I)Z"⟩ ∈ lw_tbl := mt2 (List.mem_of_getElem? (i := 131) rfl)
set_option maxRecDepth 100000 in
theorem wd_423 : Cond.selects "AntTrails$Way" ⟨"AntTrails$Way", "isNew", "(I)Z"⟩ ⟨"AntTrails$Way", "isNew", "(I)Z"⟩ ∈ lw_tbl := mt2 (List.mem_of_getElem? (i := 132) rfl)
set_option maxRecDepth 100000 in
theorem wd_424 : Cond.code ⟨"AntTrails$Way", "isNew", "(I)Z"⟩ prog_7_method_8_code 2 (some .boolean) ∈ lw_tbl := mt2 (List.mem_of_getElem? (i := 133) rfl)
set_option maxRecDepth 100000 in
theorem wd_425 : Cond.methodLinkNest "AntTrails$Way" 32 ⟨"AntTrails", "hasBit", "(II)Z"⟩ "AntTrails" ∈ lw_tbl := mt2 (List.mem_of_getElem? (i := 134) rfl)
set_option maxRecDepth 100000 in
theorem wd_426 : Cond.static ⟨"AntTrails", "hasBit", "(II)Z"⟩ ∈ lw_tbl := mt2 (List.mem_of_getElem? (i := 135) rfl)
set_option maxRecDepth 100000 in
theorem wd_427 : Cond.code ⟨"AntTrails", "hasBit", "(II)Z"⟩ prog_1_method_26_code 2 (some .boolean) ∈ lw_tbl := mt2 (List.mem_of_getElem? (i := 136) rfl)
set_option maxRecDepth 100000 in
theorem wd_428 : Cond.methodLink "AntTrails$Colony" 119 ⟨"AntTrails$Ground", "weight", "(I)I"⟩ ∈ lw_tbl := mt2 (List.mem_of_getElem? (i := 137) rfl)
set_option maxRecDepth 100000 in
theorem wd_429 : Cond.instanceMethod ⟨"AntTrails$Ground", "weight", "(I)I"⟩ ∈ lw_tbl := mt2 (List.mem_of_getElem? (i := 138) rfl)
set_option maxRecDepth 100000 in
theorem wd_430 : Cond.selects "AntTrails$Ground" ⟨"AntTrails$Ground", "weight", "(I)I"⟩ ⟨"AntTrails$Ground", "weight", "(I)I"⟩ ∈ lw_tbl := mt2 (List.mem_of_getElem? (i := 139) rfl)
set_option maxRecDepth 100000 in
theorem wd_431 : Cond.code ⟨"AntTrails$Ground", "weight", "(I)I"⟩ prog_3_method_10_code 2 (some .int) ∈ lw_tbl := mt2 (List.mem_of_getElem? (i := 140) rfl)
set_option maxRecDepth 100000 in
theorem wd_432 : Cond.methodLink "AntTrails$Colony" 92 ⟨"AntTrails$Ground", "draw", "(I)I"⟩ ∈ lw_tbl := mt2 (List.mem_of_getElem? (i := 141) rfl)
set_option maxRecDepth 100000 in
theorem wd_433 : Cond.instanceMethod ⟨"AntTrails$Ground", "draw", "(I)I"⟩ ∈ lw_tbl := mt2 (List.mem_of_getElem? (i := 142) rfl)
set_option maxRecDepth 100000 in
theorem wd_434 : Cond.selects "AntTrails$Ground" ⟨"AntTrails$Ground", "draw", "(I)I"⟩ ⟨"AntTrails$Ground", "draw", "(I)I"⟩ ∈ lw_tbl := mt2 (List.mem_of_getElem? (i := 143) rfl)
set_option maxRecDepth 100000 in
theorem wd_435 : Cond.code ⟨"AntTrails$Ground", "draw", "(I)I"⟩ prog_3_method_23_code 2 (some .int) ∈ lw_tbl := mt2 (List.mem_of_getElem? (i := 144) rfl)
set_option maxRecDepth 100000 in
theorem wd_436 : Cond.constantLong "AntTrails$Ground" 131 (16807) ∈ lw_tbl := mt2 (List.mem_of_getElem? (i := 145) rfl)
set_option maxRecDepth 100000 in
theorem wd_437 : Cond.constantLong "AntTrails$Ground" 133 (2147483647) ∈ lw_tbl := mt2 (List.mem_of_getElem? (i := 146) rfl)
set_option maxRecDepth 100000 in
theorem wd_438 : Cond.methodLink "AntTrails$Colony" 95 ⟨"AntTrails$Colony", "pathAhead", "(LAntTrails$Ground;I)I"⟩ ∈ lw_tbl := mt2 (List.mem_of_getElem? (i := 147) rfl)
set_option maxRecDepth 100000 in
theorem wd_440 : Cond.instanceMethod ⟨"AntTrails$Colony", "pathAhead", "(LAntTrails$Ground;I)I"⟩ ∈ lw_tbl := mt2 (List.mem_of_getElem? (i := 149) rfl)
set_option maxRecDepth 100000 in
theorem wd_441 : Cond.code ⟨"AntTrails$Colony", "pathAhead", "(LAntTrails$Ground;I)I"⟩ prog_2_method_7_code 5 (some .int) ∈ lw_tbl := mt2 (List.mem_of_getElem? (i := 150) rfl)
set_option maxRecDepth 100000 in
theorem wd_442 : Cond.methodLink "AntTrails$Colony" 99 ⟨"AntTrails$Ground", "lengthOf", "(I)I"⟩ ∈ lw_tbl := mt2 (List.mem_of_getElem? (i := 151) rfl)
set_option maxRecDepth 100000 in
theorem wd_443 : Cond.instanceMethod ⟨"AntTrails$Ground", "lengthOf", "(I)I"⟩ ∈ lw_tbl := mt2 (List.mem_of_getElem? (i := 152) rfl)
set_option maxRecDepth 100000 in
theorem wd_444 : Cond.selects "AntTrails$Ground" ⟨"AntTrails$Ground", "lengthOf", "(I)I"⟩ ⟨"AntTrails$Ground", "lengthOf", "(I)I"⟩ ∈ lw_tbl := mt2 (List.mem_of_getElem? (i := 153) rfl)
set_option maxRecDepth 100000 in
theorem wd_445 : Cond.code ⟨"AntTrails$Ground", "lengthOf", "(I)I"⟩ prog_3_method_9_code 2 (some .int) ∈ lw_tbl := mt2 (List.mem_of_getElem? (i := 154) rfl)
set_option maxRecDepth 100000 in
theorem wd_446 : Cond.methodLink "AntTrails$Colony" 109 ⟨"AntTrails$Way", "go", "(III)V"⟩ ∈ lw_tbl := mt2 (List.mem_of_getElem? (i := 155) rfl)
set_option maxRecDepth 100000 in
theorem wd_447 : Cond.instanceMethod ⟨"AntTrails$Way", "go", "(III)V"⟩ ∈ lw_tbl := mt2 (List.mem_of_getElem? (i := 156) rfl)
set_option maxRecDepth 100000 in
theorem wd_448 : Cond.selects "AntTrails$Way" ⟨"AntTrails$Way", "go", "(III)V"⟩ ⟨"AntTrails$Way", "go", "(III)V"⟩ ∈ lw_tbl := mt2 (List.mem_of_getElem? (i := 157) rfl)
set_option maxRecDepth 100000 in
theorem wd_449 : Cond.code ⟨"AntTrails$Way", "go", "(III)V"⟩ prog_7_method_3_code 4 none ∈ lw_tbl := mt2 (List.mem_of_getElem? (i := 158) rfl)
set_option maxRecDepth 100000 in
theorem wd_450 : Cond.methodLink "AntTrails$Colony" 51 ⟨"AntTrails$Ground", "countAnt", "(LAntTrails$Way;I)V"⟩ ∈ lw_tbl := mt2 (List.mem_of_getElem? (i := 159) rfl)
set_option maxRecDepth 100000 in
theorem wd_451 : Cond.instanceMethod ⟨"AntTrails$Ground", "countAnt", "(LAntTrails$Way;I)V"⟩ ∈ lw_tbl := mt2 (List.mem_of_getElem? (i := 160) rfl)
set_option maxRecDepth 100000 in
theorem wd_452 : Cond.selects "AntTrails$Ground" ⟨"AntTrails$Ground", "countAnt", "(LAntTrails$Way;I)V"⟩ ⟨"AntTrails$Ground", "countAnt", "(LAntTrails$Way;I)V"⟩ ∈ lw_tbl := mt2 (List.mem_of_getElem? (i := 161) rfl)
set_option maxRecDepth 100000 in
theorem wd_453 : Cond.code ⟨"AntTrails$Ground", "countAnt", "(LAntTrails$Way;I)V"⟩ prog_3_method_24_code 4 none ∈ lw_tbl := mt2 (List.mem_of_getElem? (i := 162) rfl)
set_option maxRecDepth 100000 in
theorem wd_454 : Cond.methodLink "AntTrails$Ground" 135 ⟨"AntTrails$Way", "hasPath", "(I)Z"⟩ ∈ lw_tbl := mt2 (List.mem_of_getElem? (i := 163) rfl)
set_option maxRecDepth 100000 in
theorem wd_455 : Cond.instanceMethod ⟨"AntTrails$Way", "hasPath", "(I)Z"⟩ ∈ lw_tbl := mt2 (List.mem_of_getElem? (i := 164) rfl)
set_option maxRecDepth 100000 in
theorem wd_456 : Cond.selects "AntTrails$Way" ⟨"AntTrails$Way", "hasPath", "(I)Z"⟩ ⟨"AntTrails$Way", "hasPath", "(I)Z"⟩ ∈ lw_tbl := mt2 (List.mem_of_getElem? (i := 165) rfl)
set_option maxRecDepth 100000 in
theorem wd_457 : Cond.code ⟨"AntTrails$Way", "hasPath", "(I)Z"⟩ prog_7_method_6_code 2 (some .boolean) ∈ lw_tbl := mt2 (List.mem_of_getElem? (i := 166) rfl)
set_option maxRecDepth 100000 in
theorem wd_458 : Cond.methodLink "AntTrails$Ground" 138 ⟨"AntTrails$Way", "hasPlace", "(I)Z"⟩ ∈ lw_tbl := mt2 (List.mem_of_getElem? (i := 167) rfl)
set_option maxRecDepth 100000 in
theorem wd_459 : Cond.instanceMethod ⟨"AntTrails$Way", "hasPlace", "(I)Z"⟩ ∈ lw_tbl := mt2 (List.mem_of_getElem? (i := 168) rfl)
set_option maxRecDepth 100000 in
theorem wd_460 : Cond.selects "AntTrails$Way" ⟨"AntTrails$Way", "hasPlace", "(I)Z"⟩ ⟨"AntTrails$Way", "hasPlace", "(I)Z"⟩ ∈ lw_tbl := mt2 (List.mem_of_getElem? (i := 169) rfl)
set_option maxRecDepth 100000 in
theorem wd_461 : Cond.code ⟨"AntTrails$Way", "hasPlace", "(I)Z"⟩ prog_7_method_7_code 2 (some .boolean) ∈ lw_tbl := mt2 (List.mem_of_getElem? (i := 170) rfl)
set_option maxRecDepth 100000 in
theorem wd_462 : Cond.methodLink "AntTrails$Ground" 141 ⟨"AntTrails$Way", "end", "()I"⟩ ∈ lw_tbl := mt2 (List.mem_of_getElem? (i := 171) rfl)
set_option maxRecDepth 100000 in
theorem wd_463 : Cond.methodLink "AntTrails$Colony" 55 ⟨"AntTrails$Ground", "laidOn", "(LAntTrails$Way;)I"⟩ ∈ lw_tbl := mt2 (List.mem_of_getElem? (i := 172) rfl)
set_option maxRecDepth 100000 in
theorem wd_464 : Cond.instanceMethod ⟨"AntTrails$Ground", "laidOn", "(LAntTrails$Way;)I"⟩ ∈ lw_tbl := mt2 (List.mem_of_getElem? (i := 173) rfl)
set_option maxRecDepth 100000 in
theorem wd_465 : Cond.selects "AntTrails$Ground" ⟨"AntTrails$Ground", "laidOn", "(LAntTrails$Way;)I"⟩ ⟨"AntTrails$Ground", "laidOn", "(LAntTrails$Way;)I"⟩ ∈ lw_tbl := mt2 (List.mem_of_getElem? (i := 174) rfl)
set_option maxRecDepth 100000 in
theorem wd_466 : Cond.code ⟨"AntTrails$Ground", "laidOn", "(LAntTrails$Way;)I"⟩ prog_3_method_26_code 2 (some .int) ∈ lw_tbl := mt2 (List.mem_of_getElem? (i := 175) rfl)
set_option maxRecDepth 100000 in
theorem wd_467 : Cond.methodLink "AntTrails$Colony" 59 ⟨"AntTrails$Colony", "layTrail", "(I)V"⟩ ∈ lw_tbl := mt2 (List.mem_of_getElem? (i := 176) rfl)
set_option maxRecDepth 100000 in
theorem wd_469 : Cond.instanceMethod ⟨"AntTrails$Colony", "layTrail", "(I)V"⟩ ∈ lw_tbl := mt2 (List.mem_of_getElem? (i := 178) rfl)
set_option maxRecDepth 100000 in
theorem wd_470 : Cond.code ⟨"AntTrails$Colony", "layTrail", "(I)V"⟩ prog_2_method_4_code 3 none ∈ lw_tbl := mt2 (List.mem_of_getElem? (i := 179) rfl)
set_option maxRecDepth 100000 in
theorem wd_471 : Cond.methodLink "AntTrails$Colony" 75 ⟨"AntTrails$Way", "hasPath", "(I)Z"⟩ ∈ lw_tbl := mt2 (List.mem_of_getElem? (i := 180) rfl)
set_option maxRecDepth 100000 in
theorem wd_472 : Cond.methodLink "AntTrails$Colony" 63 ⟨"AntTrails$Ground", "keepIfBetter", "(LAntTrails$Way;)V"⟩ ∈ lw_tbl := mt2 (List.mem_of_getElem? (i := 181) rfl)
set_option maxRecDepth 100000 in
theorem wd_473 : Cond.instanceMethod ⟨"AntTrails$Ground", "keepIfBetter", "(LAntTrails$Way;)V"⟩ ∈ lw_tbl := mt2 (List.mem_of_getElem? (i := 182) rfl)
set_option maxRecDepth 100000 in
theorem wd_474 : Cond.selects "AntTrails$Ground" ⟨"AntTrails$Ground", "keepIfBetter", "(LAntTrails$Way;)V"⟩ ⟨"AntTrails$Ground", "keepIfBetter", "(LAntTrails$Way;)V"⟩ ∈ lw_tbl := mt2 (List.mem_of_getElem? (i := 183) rfl)
set_option maxRecDepth 100000 in
theorem wd_475 : Cond.code ⟨"AntTrails$Ground", "keepIfBetter", "(LAntTrails$Way;)V"⟩ prog_3_method_25_code 2 none ∈ lw_tbl := mt2 (List.mem_of_getElem? (i := 184) rfl)
set_option maxRecDepth 100000 in
theorem wd_476 : Cond.methodLink "AntTrails$Ground" 144 ⟨"AntTrails$Ground", "hasBest", "()Z"⟩ ∈ lw_tbl := mt2 (List.mem_of_getElem? (i := 185) rfl)
set_option maxRecDepth 100000 in
theorem wd_477 : Cond.instanceMethod ⟨"AntTrails$Ground", "hasBest", "()Z"⟩ ∈ lw_tbl := mt2 (List.mem_of_getElem? (i := 186) rfl)
set_option maxRecDepth 100000 in
theorem wd_478 : Cond.selects "AntTrails$Ground" ⟨"AntTrails$Ground", "hasBest", "()Z"⟩ ⟨"AntTrails$Ground", "hasBest", "()Z"⟩ ∈ lw_tbl := mt2 (List.mem_of_getElem? (i := 187) rfl)
set_option maxRecDepth 100000 in
theorem wd_479 : Cond.code ⟨"AntTrails$Ground", "hasBest", "()Z"⟩ prog_3_method_6_code 1 (some .boolean) ∈ lw_tbl := mt2 (List.mem_of_getElem? (i := 188) rfl)
set_option maxRecDepth 100000 in
theorem wd_480 : Cond.methodLink "AntTrails$Colony" 67 ⟨"AntTrails$Ground", "changeTrails", "([I)V"⟩ ∈ lw_tbl := mt2 (List.mem_of_getElem? (i := 189) rfl)
set_option maxRecDepth 100000 in
theorem wd_481 : Cond.instanceMethod ⟨"AntTrails$Ground", "changeTrails", "([I)V"⟩ ∈ lw_tbl := mt2 (List.mem_of_getElem? (i := 190) rfl)
set_option maxRecDepth 100000 in
theorem wd_482 : Cond.selects "AntTrails$Ground" ⟨"AntTrails$Ground", "changeTrails", "([I)V"⟩ ⟨"AntTrails$Ground", "changeTrails", "([I)V"⟩ ∈ lw_tbl := mt2 (List.mem_of_getElem? (i := 191) rfl)
set_option maxRecDepth 100000 in
theorem wd_483 : Cond.code ⟨"AntTrails$Ground", "changeTrails", "([I)V"⟩ prog_3_method_27_code 5 none ∈ lw_tbl := mt2 (List.mem_of_getElem? (i := 192) rfl)
set_option maxRecDepth 100000 in
theorem wd_484 : Cond.methodLink "AntTrails$Ground" 151 ⟨"AntTrails$Ground", "laidOn", "(LAntTrails$Way;)I"⟩ ∈ lw_tbl := mt2 (List.mem_of_getElem? (i := 193) rfl)
set_option maxRecDepth 100000 in
theorem wd_485 : Cond.methodLink "AntTrails$Ground" 97 ⟨"java/lang/Math", "max", "(II)I"⟩ ∈ lw_tbl := mt2 (List.mem_of_getElem? (i := 194) rfl)
set_option maxRecDepth 100000 in
theorem wd_486 : Cond.static ⟨"java/lang/Math", "max", "(II)I"⟩ ∈ lw_tbl := mt2 (List.mem_of_getElem? (i := 195) rfl)
set_option maxRecDepth 100000 in
theorem wd_487 : Cond.code ⟨"java/lang/Math", "max", "(II)I"⟩ prog_11_method_65_code 2 (some .int) ∈ lw_tbl := mt2 (List.mem_of_getElem? (i := 196) rfl)
set_option maxRecDepth 100000 in
theorem wd_488 : Cond.methodLink "AntTrails$Ground" 155 ⟨"java/lang/Math", "min", "(II)I"⟩ ∈ lw_tbl := mt2 (List.mem_of_getElem? (i := 197) rfl)
set_option maxRecDepth 100000 in
theorem wd_489 : Cond.static ⟨"java/lang/Math", "min", "(II)I"⟩ ∈ lw_tbl := mt2 (List.mem_of_getElem? (i := 198) rfl)
set_option maxRecDepth 100000 in
theorem wd_490 : Cond.code ⟨"java/lang/Math", "min", "(II)I"⟩ prog_11_method_69_code 2 (some .int) ∈ lw_tbl := mt2 (List.mem_of_getElem? (i := 199) rfl)
set_option maxRecDepth 100000 in
theorem wd_491 : Cond.methodLink "AntTrailsLaw" 37 ⟨"AntTrails", "forget", "()I"⟩ ∈ lw_tbl := mt2 (List.mem_of_getElem? (i := 200) rfl)
set_option maxRecDepth 100000 in
theorem wd_492 : Cond.instanceMethod ⟨"AntTrails", "forget", "()I"⟩ ∈ lw_tbl := mt2 (List.mem_of_getElem? (i := 201) rfl)
set_option maxRecDepth 100000 in
theorem wd_493 : Cond.selects "AntTrails" ⟨"AntTrails", "forget", "()I"⟩ ⟨"AntTrails", "forget", "()I"⟩ ∈ lw_tbl := mt2 (List.mem_of_getElem? (i := 202) rfl)
set_option maxRecDepth 100000 in
theorem wd_494 : Cond.code ⟨"AntTrails", "forget", "()I"⟩ prog_1_method_7_code 1 (some .int) ∈ lw_tbl := mt2 (List.mem_of_getElem? (i := 203) rfl)
set_option maxRecDepth 100000 in
theorem wd_495 : Cond.methodLink "AntTrails" 74 ⟨"AntTrails$Ground", "clearTrails", "()I"⟩ ∈ lw_tbl := mt2 (List.mem_of_getElem? (i := 204) rfl)
set_option maxRecDepth 100000 in
theorem wd_496 : Cond.instanceMethod ⟨"AntTrails$Ground", "clearTrails", "()I"⟩ ∈ lw_tbl := mt2 (List.mem_of_getElem? (i := 205) rfl)
set_option maxRecDepth 100000 in
theorem wd_497 : Cond.selects "AntTrails$Ground" ⟨"AntTrails$Ground", "clearTrails", "()I"⟩ ⟨"AntTrails$Ground", "clearTrails", "()I"⟩ ∈ lw_tbl := mt2 (List.mem_of_getElem? (i := 206) rfl)
set_option maxRecDepth 100000 in
theorem wd_498 : Cond.code ⟨"AntTrails$Ground", "clearTrails", "()I"⟩ prog_3_method_21_code 3 (some .int) ∈ lw_tbl := mt2 (List.mem_of_getElem? (i := 207) rfl)
set_option maxRecDepth 100000 in
theorem wd_499 : Cond.methodLink "AntTrails$Ground" 122 ⟨"AntTrails$Ground", "allTrails", "()I"⟩ ∈ lw_tbl := mt2 (List.mem_of_getElem? (i := 208) rfl)
set_option maxRecDepth 100000 in
theorem wd_500 : Cond.instanceMethod ⟨"AntTrails$Ground", "allTrails", "()I"⟩ ∈ lw_tbl := mt2 (List.mem_of_getElem? (i := 209) rfl)
set_option maxRecDepth 100000 in
theorem wd_501 : Cond.selects "AntTrails$Ground" ⟨"AntTrails$Ground", "allTrails", "()I"⟩ ⟨"AntTrails$Ground", "allTrails", "()I"⟩ ∈ lw_tbl := mt2 (List.mem_of_getElem? (i := 210) rfl)
set_option maxRecDepth 100000 in
theorem wd_502 : Cond.code ⟨"AntTrails$Ground", "allTrails", "()I"⟩ prog_3_method_15_code 3 (some .int) ∈ lw_tbl := mt2 (List.mem_of_getElem? (i := 211) rfl)
set_option maxRecDepth 100000 in
theorem wd_503 : Cond.methodLink "AntTrailsLaw" 41 ⟨"AntTrails", "set", "(II)I"⟩ ∈ lw_tbl := mt2 (List.mem_of_getElem? (i := 212) rfl)
set_option maxRecDepth 100000 in
theorem wd_504 : Cond.instanceMethod ⟨"AntTrails", "set", "(II)I"⟩ ∈ lw_tbl := mt2 (List.mem_of_getElem? (i := 213) rfl)
set_option maxRecDepth 100000 in
theorem wd_505 : Cond.selects "AntTrails" ⟨"AntTrails", "set", "(II)I"⟩ ⟨"AntTrails", "set", "(II)I"⟩ ∈ lw_tbl := mt2 (List.mem_of_getElem? (i := 214) rfl)
set_option maxRecDepth 100000 in
theorem wd_506 : Cond.code ⟨"AntTrails", "set", "(II)I"⟩ prog_1_method_8_code 3 (some .int) ∈ lw_tbl := mt2 (List.mem_of_getElem? (i := 215) rfl)
set_option maxRecDepth 100000 in
theorem wd_507 : Cond.methodLink "AntTrails" 77 ⟨"AntTrails$Ground", "changeSetting", "(II)I"⟩ ∈ lw_tbl := mt2 (List.mem_of_getElem? (i := 216) rfl)
set_option maxRecDepth 100000 in
theorem wd_508 : Cond.instanceMethod ⟨"AntTrails$Ground", "changeSetting", "(II)I"⟩ ∈ lw_tbl := mt2 (List.mem_of_getElem? (i := 217) rfl)
set_option maxRecDepth 100000 in
theorem wd_509 : Cond.selects "AntTrails$Ground" ⟨"AntTrails$Ground", "changeSetting", "(II)I"⟩ ⟨"AntTrails$Ground", "changeSetting", "(II)I"⟩ ∈ lw_tbl := mt2 (List.mem_of_getElem? (i := 218) rfl)
set_option maxRecDepth 100000 in
theorem wd_510 : Cond.code ⟨"AntTrails$Ground", "changeSetting", "(II)I"⟩ prog_3_method_22_code 4 (some .int) ∈ lw_tbl := mt2 (List.mem_of_getElem? (i := 219) rfl)
set_option maxRecDepth 100000 in
theorem wd_511 : Cond.fieldLinkNest "AntTrails$Ground" 125 "AntTrails" "LEAST" "[I" "AntTrails" ∈ lw_tbl := mt2 (List.mem_of_getElem? (i := 220) rfl)
set_option maxRecDepth 100000 in
theorem wd_512 : Cond.laysStatic "AntTrails" "LEAST" "[I" ∈ lw_tbl := mt2 (List.mem_of_getElem? (i := 221) rfl)
set_option maxRecDepth 100000 in
theorem wd_513 : Cond.fieldLinkNest "AntTrails$Ground" 128 "AntTrails" "MOST" "[I" "AntTrails" ∈ lw_tbl := mt2 (List.mem_of_getElem? (i := 222) rfl)
set_option maxRecDepth 100000 in
theorem wd_514 : Cond.laysStatic "AntTrails" "MOST" "[I" ∈ lw_tbl := mt2 (List.mem_of_getElem? (i := 223) rfl)
set_option maxRecDepth 100000 in
theorem wd_515 : Cond.methodLink "AntTrailsLaw" 46 ⟨"AntTrails", "pathOf", "(II)I"⟩ ∈ lw_tbl := mt2 (List.mem_of_getElem? (i := 224) rfl)
set_option maxRecDepth 100000 in
theorem wd_516 : Cond.instanceMethod ⟨"AntTrails", "pathOf", "(II)I"⟩ ∈ lw_tbl := mt2 (List.mem_of_getElem? (i := 225) rfl)
set_option maxRecDepth 100000 in
theorem wd_517 : Cond.selects "AntTrails" ⟨"AntTrails", "pathOf", "(II)I"⟩ ⟨"AntTrails", "pathOf", "(II)I"⟩ ∈ lw_tbl := mt2 (List.mem_of_getElem? (i := 226) rfl)
set_option maxRecDepth 100000 in
theorem wd_518 : Cond.code ⟨"AntTrails", "pathOf", "(II)I"⟩ prog_1_method_9_code 3 (some .int) ∈ lw_tbl := mt2 (List.mem_of_getElem? (i := 227) rfl)
set_option maxRecDepth 100000 in
theorem wd_519 : Cond.methodLink "AntTrails" 81 ⟨"AntTrails$Ground", "isPath", "(I)Z"⟩ ∈ lw_tbl := mt2 (List.mem_of_getElem? (i := 228) rfl)
set_option maxRecDepth 100000 in
theorem wd_520 : Cond.methodLink "AntTrails" 99 ⟨"AntTrails$Ground", "isClosed", "(I)Z"⟩ ∈ lw_tbl := mt2 (List.mem_of_getElem? (i := 229) rfl)
set_option maxRecDepth 100000 in
theorem wd_521 : Cond.methodLink "AntTrails" 102 ⟨"AntTrails$Ground", "weight", "(I)I"⟩ ∈ lw_tbl := mt2 (List.mem_of_getElem? (i := 230) rfl)
set_option maxRecDepth 100000 in
theorem wd_522 : Cond.methodLink "AntTrails" 112 ⟨"AntTrails$Way", "hasPath", "(I)Z"⟩ ∈ lw_tbl := mt2 (List.mem_of_getElem? (i := 231) rfl)
set_option maxRecDepth 100000 in
theorem wd_523 : Cond.methodLink "AntTrailsLaw" 50 ⟨"AntTrails", "placeOf", "(II)I"⟩ ∈ lw_tbl := mt2 (List.mem_of_getElem? (i := 232) rfl)
set_option maxRecDepth 100000 in
theorem wd_524 : Cond.instanceMethod ⟨"AntTrails", "placeOf", "(II)I"⟩ ∈ lw_tbl := mt2 (List.mem_of_getElem? (i := 233) rfl)
set_option maxRecDepth 100000 in
theorem wd_525 : Cond.selects "AntTrails" ⟨"AntTrails", "placeOf", "(II)I"⟩ ⟨"AntTrails", "placeOf", "(II)I"⟩ ∈ lw_tbl := mt2 (List.mem_of_getElem? (i := 234) rfl)
set_option maxRecDepth 100000 in
theorem wd_526 : Cond.code ⟨"AntTrails", "placeOf", "(II)I"⟩ prog_1_method_10_code 3 (some .int) ∈ lw_tbl := mt2 (List.mem_of_getElem? (i := 235) rfl)
set_option maxRecDepth 100000 in
theorem wd_527 : Cond.methodLink "AntTrails" 117 ⟨"AntTrails$Ground", "isPlace", "(I)Z"⟩ ∈ lw_tbl := mt2 (List.mem_of_getElem? (i := 236) rfl)
set_option maxRecDepth 100000 in
theorem wd_528 : Cond.methodLink "AntTrails" 120 ⟨"AntTrails$Ground", "openPathsAt", "(I)I"⟩ ∈ lw_tbl := mt2 (List.mem_of_getElem? (i := 237) rfl)
set_option maxRecDepth 100000 in
theorem wd_529 : Cond.instanceMethod ⟨"AntTrails$Ground", "openPathsAt", "(I)I"⟩ ∈ lw_tbl := mt2 (List.mem_of_getElem? (i := 238) rfl)
set_option maxRecDepth 100000 in
theorem wd_530 : Cond.selects "AntTrails$Ground" ⟨"AntTrails$Ground", "openPathsAt", "(I)I"⟩ ⟨"AntTrails$Ground", "openPathsAt", "(I)I"⟩ ∈ lw_tbl := mt2 (List.mem_of_getElem? (i := 239) rfl)
set_option maxRecDepth 100000 in
theorem wd_531 : Cond.code ⟨"AntTrails$Ground", "openPathsAt", "(I)I"⟩ prog_3_method_13_code 4 (some .int) ∈ lw_tbl := mt3 (List.mem_of_getElem? (i := 0) rfl)
set_option maxRecDepth 100000 in
theorem wd_532 : Cond.methodLink "AntTrails$Ground" 89 ⟨"AntTrails$Ground", "across", "(II)I"⟩ ∈ lw_tbl := mt3 (List.mem_of_getElem? (i := 1) rfl)
set_option maxRecDepth 100000 in
theorem wd_533 : Cond.methodLink "AntTrails" 129 ⟨"AntTrails$Survey", "distance", "(LAntTrails$Ground;I)I"⟩ ∈ lw_tbl := mt3 (List.mem_of_getElem? (i := 2) rfl)
set_option maxRecDepth 100000 in
theorem wd_534 : Cond.instanceMethod ⟨"AntTrails$Survey", "distance", "(LAntTrails$Ground;I)I"⟩ ∈ lw_tbl := mt3 (List.mem_of_getElem? (i := 3) rfl)
set_option maxRecDepth 100000 in
theorem wd_535 : Cond.selects "AntTrails$Survey" ⟨"AntTrails$Survey", "distance", "(LAntTrails$Ground;I)I"⟩ ⟨"AntTrails$Survey", "distance", "(LAntTrails$Ground;I)I"⟩ ∈ lw_tbl := mt3 (List.mem_of_getElem? (i := 4) rfl)
set_option maxRecDepth 100000 in
theorem wd_536 : Cond.code ⟨"AntTrails$Survey", "distance", "(LAntTrails$Ground;I)I"⟩ prog_6_method_2_code 5 (some .int) ∈ lw_tbl := mt3 (List.mem_of_getElem? (i := 5) rfl)
set_option maxRecDepth 100000 in
theorem wd_537 : Cond.methodLink "AntTrails$Survey" 22 ⟨"AntTrails$Ground", "isPlace", "(I)Z"⟩ ∈ lw_tbl := mt3 (List.mem_of_getElem? (i := 6) rfl)
set_option maxRecDepth 100000 in
theorem wd_538 : Cond.constant "AntTrails$Survey" 28 (-1000000004) ∈ lw_tbl := mt3 (List.mem_of_getElem? (i := 7) rfl)
set_option maxRecDepth 100000 in
theorem wd_539 : Cond.constant "AntTrails$Survey" 29 (1000000) ∈ lw_tbl := mt3 (List.mem_of_getElem? (i := 8) rfl)
set_option maxRecDepth 100000 in
theorem wd_540 : Cond.methodLink "AntTrails$Survey" 37 ⟨"AntTrails$Survey", "shorten", "(LAntTrails$Ground;I)V"⟩ ∈ lw_tbl := mt3 (List.mem_of_getElem? (i := 9) rfl)
set_option maxRecDepth 100000 in
theorem wd_542 : Cond.instanceMethod ⟨"AntTrails$Survey", "shorten", "(LAntTrails$Ground;I)V"⟩ ∈ lw_tbl := mt3 (List.mem_of_getElem? (i := 11) rfl)
set_option maxRecDepth 100000 in
theorem wd_543 : Cond.code ⟨"AntTrails$Survey", "shorten", "(LAntTrails$Ground;I)V"⟩ prog_6_method_3_code 5 none ∈ lw_tbl := mt3 (List.mem_of_getElem? (i := 12) rfl)
set_option maxRecDepth 100000 in
theorem wd_544 : Cond.methodLink "AntTrails$Survey" 41 ⟨"AntTrails$Ground", "isPath", "(I)Z"⟩ ∈ lw_tbl := mt3 (List.mem_of_getElem? (i := 13) rfl)
set_option maxRecDepth 100000 in
theorem wd_545 : Cond.methodLink "AntTrails$Survey" 44 ⟨"AntTrails$Ground", "isClosed", "(I)Z"⟩ ∈ lw_tbl := mt3 (List.mem_of_getElem? (i := 14) rfl)
set_option maxRecDepth 100000 in
theorem wd_546 : Cond.methodLinkNest "AntTrails$Survey" 53 ⟨"AntTrails", "isWithin", "(III)Z"⟩ "AntTrails" ∈ lw_tbl := mt3 (List.mem_of_getElem? (i := 15) rfl)
set_option maxRecDepth 100000 in
theorem wd_547 : Cond.methodLink "AntTrails$Survey" 60 ⟨"java/lang/Math", "min", "(II)I"⟩ ∈ lw_tbl := mt3 (List.mem_of_getElem? (i := 16) rfl)
set_option maxRecDepth 100000 in
theorem wd_548 : Cond.methodLink "AntTrails" 132 ⟨"AntTrails$Ground", "hasBest", "()Z"⟩ ∈ lw_tbl := mt3 (List.mem_of_getElem? (i := 17) rfl)
set_option maxRecDepth 100000 in
theorem wd_549 : Cond.methodLink "AntTrails" 136 ⟨"AntTrails$Way", "hasPlace", "(I)Z"⟩ ∈ lw_tbl := mt3 (List.mem_of_getElem? (i := 18) rfl)
set_option maxRecDepth 100000 in
theorem wd_550 : Cond.methodLink "AntTrailsLaw" 54 ⟨"AntTrails", "best", "(I)I"⟩ ∈ lw_tbl := mt3 (List.mem_of_getElem? (i := 19) rfl)
set_option maxRecDepth 100000 in
theorem wd_551 : Cond.instanceMethod ⟨"AntTrails", "best", "(I)I"⟩ ∈ lw_tbl := mt3 (List.mem_of_getElem? (i := 20) rfl)
set_option maxRecDepth 100000 in
theorem wd_552 : Cond.selects "AntTrails" ⟨"AntTrails", "best", "(I)I"⟩ ⟨"AntTrails", "best", "(I)I"⟩ ∈ lw_tbl := mt3 (List.mem_of_getElem? (i := 21) rfl)
set_option maxRecDepth 100000 in
theorem wd_553 : Cond.code ⟨"AntTrails", "best", "(I)I"⟩ prog_1_method_11_code 2 (some .int) ∈ lw_tbl := mt3 (List.mem_of_getElem? (i := 22) rfl)
set_option maxRecDepth 100000 in
theorem wd_554 : Cond.methodLink "AntTrails" 139 ⟨"AntTrails", "isWithin", "(III)Z"⟩ ∈ lw_tbl := mt3 (List.mem_of_getElem? (i := 23) rfl)
set_option maxRecDepth 100000 in
theorem wd_555 : Cond.constant "AntTrails" 143 (-1000000004) ∈ lw_tbl := mt3 (List.mem_of_getElem? (i := 24) rfl)
set_option maxRecDepth 100000 in
theorem wd_556 : Cond.methodLink "AntTrailsLaw" 58 ⟨"AntTrails", "bestAt", "(I)I"⟩ ∈ lw_tbl := mt3 (List.mem_of_getElem? (i := 25) rfl)
set_option maxRecDepth 100000 in
theorem wd_557 : Cond.instanceMethod ⟨"AntTrails", "bestAt", "(I)I"⟩ ∈ lw_tbl := mt3 (List.mem_of_getElem? (i := 26) rfl)
set_option maxRecDepth 100000 in
theorem wd_558 : Cond.selects "AntTrails" ⟨"AntTrails", "bestAt", "(I)I"⟩ ⟨"AntTrails", "bestAt", "(I)I"⟩ ∈ lw_tbl := mt3 (List.mem_of_getElem? (i := 27) rfl)
set_option maxRecDepth 100000 in
theorem wd_559 : Cond.code ⟨"AntTrails", "bestAt", "(I)I"⟩ prog_1_method_12_code 2 (some .int) ∈ lw_tbl := mt3 (List.mem_of_getElem? (i := 28) rfl)
set_option maxRecDepth 100000 in
theorem wd_560 : Cond.methodLink "AntTrails" 157 ⟨"AntTrails$Way", "placeAt", "(I)I"⟩ ∈ lw_tbl := mt3 (List.mem_of_getElem? (i := 29) rfl)
set_option maxRecDepth 100000 in
theorem wd_561 : Cond.methodLink "AntTrailsLaw" 62 ⟨"AntTrails", "chance", "(II)I"⟩ ∈ lw_tbl := mt3 (List.mem_of_getElem? (i := 30) rfl)
set_option maxRecDepth 100000 in
theorem wd_562 : Cond.instanceMethod ⟨"AntTrails", "chance", "(II)I"⟩ ∈ lw_tbl := mt3 (List.mem_of_getElem? (i := 31) rfl)
set_option maxRecDepth 100000 in
theorem wd_563 : Cond.selects "AntTrails" ⟨"AntTrails", "chance", "(II)I"⟩ ⟨"AntTrails", "chance", "(II)I"⟩ ∈ lw_tbl := mt3 (List.mem_of_getElem? (i := 32) rfl)
set_option maxRecDepth 100000 in
theorem wd_564 : Cond.code ⟨"AntTrails", "chance", "(II)I"⟩ prog_1_method_13_code 4 (some .int) ∈ lw_tbl := mt3 (List.mem_of_getElem? (i := 33) rfl)
set_option maxRecDepth 100000 in
theorem wd_565 : Cond.methodLink "AntTrails" 160 ⟨"AntTrails$Ground", "weightsAt", "(I)I"⟩ ∈ lw_tbl := mt3 (List.mem_of_getElem? (i := 34) rfl)
set_option maxRecDepth 100000 in
theorem wd_566 : Cond.instanceMethod ⟨"AntTrails$Ground", "weightsAt", "(I)I"⟩ ∈ lw_tbl := mt3 (List.mem_of_getElem? (i := 35) rfl)
set_option maxRecDepth 100000 in
theorem wd_567 : Cond.selects "AntTrails$Ground" ⟨"AntTrails$Ground", "weightsAt", "(I)I"⟩ ⟨"AntTrails$Ground", "weightsAt", "(I)I"⟩ ∈ lw_tbl := mt3 (List.mem_of_getElem? (i := 36) rfl)
set_option maxRecDepth 100000 in
theorem wd_568 : Cond.code ⟨"AntTrails$Ground", "weightsAt", "(I)I"⟩ prog_3_method_14_code 4 (some .int) ∈ lw_tbl := mt3 (List.mem_of_getElem? (i := 37) rfl)
set_option maxRecDepth 100000 in
theorem wd_569 : Cond.methodLink "AntTrails$Ground" 93 ⟨"AntTrails$Ground", "weight", "(I)I"⟩ ∈ lw_tbl := mt3 (List.mem_of_getElem? (i := 38) rfl)
set_option maxRecDepth 100000 in
theorem wd_570 : Cond.methodLink "AntTrails" 163 ⟨"AntTrails$Ground", "across", "(II)I"⟩ ∈ lw_tbl := mt3 (List.mem_of_getElem? (i := 39) rfl)
set_option maxRecDepth 100000 in
theorem wd_571 : Cond.methodLink "AntTrails" 166 ⟨"AntTrails", "bitsOf", "(F)I"⟩ ∈ lw_tbl := mt3 (List.mem_of_getElem? (i := 40) rfl)
set_option maxRecDepth 100000 in
theorem wd_572 : Cond.static ⟨"AntTrails", "bitsOf", "(F)I"⟩ ∈ lw_tbl := mt3 (List.mem_of_getElem? (i := 41) rfl)
set_option maxRecDepth 100000 in
theorem wd_573 : Cond.code ⟨"AntTrails", "bitsOf", "(F)I"⟩ prog_1_method_28_code 4 (some .int) ∈ lw_tbl := mt3 (List.mem_of_getElem? (i := 42) rfl)
set_option maxRecDepth 100000 in
theorem wd_574 : Cond.constantFloat "AntTrails" 251 (1258291200) ∈ lw_tbl := mt3 (List.mem_of_getElem? (i := 43) rfl)
set_option maxRecDepth 100000 in
theorem wd_575 : Cond.methodLink "AntTrailsLaw" 66 ⟨"AntTrails", "greedy", "(I)I"⟩ ∈ lw_tbl := mt3 (List.mem_of_getElem? (i := 44) rfl)
set_option maxRecDepth 100000 in
theorem wd_576 : Cond.instanceMethod ⟨"AntTrails", "greedy", "(I)I"⟩ ∈ lw_tbl := mt3 (List.mem_of_getElem? (i := 45) rfl)
set_option maxRecDepth 100000 in
theorem wd_577 : Cond.selects "AntTrails" ⟨"AntTrails", "greedy", "(I)I"⟩ ⟨"AntTrails", "greedy", "(I)I"⟩ ∈ lw_tbl := mt3 (List.mem_of_getElem? (i := 46) rfl)
set_option maxRecDepth 100000 in
theorem wd_578 : Cond.code ⟨"AntTrails", "greedy", "(I)I"⟩ prog_1_method_14_code 2 (some .int) ∈ lw_tbl := mt3 (List.mem_of_getElem? (i := 47) rfl)
set_option maxRecDepth 100000 in
theorem wd_579 : Cond.methodLink "AntTrails" 170 ⟨"AntTrails$Ground", "hasFood", "()Z"⟩ ∈ lw_tbl := mt3 (List.mem_of_getElem? (i := 48) rfl)
set_option maxRecDepth 100000 in
theorem wd_580 : Cond.constant "AntTrails" 173 (-1000000002) ∈ lw_tbl := mt3 (List.mem_of_getElem? (i := 49) rfl)
set_option maxRecDepth 100000 in
theorem wd_581 : Cond.methodLink "AntTrails" 174 ⟨"AntTrails$Survey", "followTrails", "(LAntTrails$Ground;)V"⟩ ∈ lw_tbl := mt3 (List.mem_of_getElem? (i := 50) rfl)
set_option maxRecDepth 100000 in
theorem wd_582 : Cond.instanceMethod ⟨"AntTrails$Survey", "followTrails", "(LAntTrails$Ground;)V"⟩ ∈ lw_tbl := mt3 (List.mem_of_getElem? (i := 51) rfl)
set_option maxRecDepth 100000 in
theorem wd_583 : Cond.selects "AntTrails$Survey" ⟨"AntTrails$Survey", "followTrails", "(LAntTrails$Ground;)V"⟩ ⟨"AntTrails$Survey", "followTrails", "(LAntTrails$Ground;)V"⟩ ∈ lw_tbl := mt3 (List.mem_of_getElem? (i := 52) rfl)
set_option maxRecDepth 100000 in
theorem wd_584 : Cond.code ⟨"AntTrails$Survey", "followTrails", "(LAntTrails$Ground;)V"⟩ prog_6_method_4_code 4 none ∈ lw_tbl := mt3 (List.mem_of_getElem? (i := 53) rfl)
set_option maxRecDepth 100000 in
theorem wd_585 : Cond.methodLink "AntTrails$Survey" 66 ⟨"AntTrails$Way", "begin", "()V"⟩ ∈ lw_tbl := mt3 (List.mem_of_getElem? (i := 54) rfl)
set_option maxRecDepth 100000 in
theorem wd_586 : Cond.methodLink "AntTrails$Survey" 69 ⟨"AntTrails$Way", "end", "()I"⟩ ∈ lw_tbl := mt3 (List.mem_of_getElem? (i := 55) rfl)
set_option maxRecDepth 100000 in
theorem wd_587 : Cond.methodLink "AntTrails$Survey" 76 ⟨"AntTrails$Survey", "greatestAhead", "(LAntTrails$Ground;)I"⟩ ∈ lw_tbl := mt3 (List.mem_of_getElem? (i := 56) rfl)
set_option maxRecDepth 100000 in
theorem wd_589 : Cond.instanceMethod ⟨"AntTrails$Survey", "greatestAhead", "(LAntTrails$Ground;)I"⟩ ∈ lw_tbl := mt3 (List.mem_of_getElem? (i := 58) rfl)
set_option maxRecDepth 100000 in
theorem wd_590 : Cond.code ⟨"AntTrails$Survey", "greatestAhead", "(LAntTrails$Ground;)I"⟩ prog_6_method_5_code 6 (some .int) ∈ lw_tbl := mt3 (List.mem_of_getElem? (i := 59) rfl)
set_option maxRecDepth 100000 in
theorem wd_591 : Cond.methodLink "AntTrails$Survey" 80 ⟨"AntTrails$Ground", "across", "(II)I"⟩ ∈ lw_tbl := mt3 (List.mem_of_getElem? (i := 60) rfl)
set_option maxRecDepth 100000 in
theorem wd_592 : Cond.methodLink "AntTrails$Survey" 91 ⟨"AntTrails$Way", "isNew", "(I)Z"⟩ ∈ lw_tbl := mt3 (List.mem_of_getElem? (i := 61) rfl)
set_option maxRecDepth 100000 in
theorem wd_593 : Cond.methodLink "AntTrails$Survey" 94 ⟨"AntTrails$Survey", "isGreater", "(LAntTrails$Ground;II)Z"⟩ ∈ lw_tbl := mt3 (List.mem_of_getElem? (i := 62) rfl)
set_option maxRecDepth 100000 in
theorem wd_594 : Cond.static ⟨"AntTrails$Survey", "isGreater", "(LAntTrails$Ground;II)Z"⟩ ∈ lw_tbl := mt3 (List.mem_of_getElem? (i := 63) rfl)
set_option maxRecDepth 100000 in
theorem wd_595 : Cond.code ⟨"AntTrails$Survey", "isGreater", "(LAntTrails$Ground;II)Z"⟩ prog_6_method_6_code 3 (some .boolean) ∈ lw_tbl := mt3 (List.mem_of_getElem? (i := 64) rfl)
set_option maxRecDepth 100000 in
theorem wd_596 : Cond.methodLink "AntTrails$Survey" 83 ⟨"AntTrails$Ground", "lengthOf", "(I)I"⟩ ∈ lw_tbl := mt3 (List.mem_of_getElem? (i := 65) rfl)
set_option maxRecDepth 100000 in
theorem wd_597 : Cond.methodLink "AntTrails$Survey" 87 ⟨"AntTrails$Way", "go", "(III)V"⟩ ∈ lw_tbl := mt3 (List.mem_of_getElem? (i := 66) rfl)
set_option maxRecDepth 100000 in
theorem wd_598 : Cond.methodLink "AntTrails" 180 ⟨"AntTrails$Way", "end", "()I"⟩ ∈ lw_tbl := mt3 (List.mem_of_getElem? (i := 67) rfl)
set_option maxRecDepth 100000 in
theorem wd_599 : Cond.methodLink "AntTrailsLaw" 70 ⟨"AntTrails", "over", "()I"⟩ ∈ lw_tbl := mt3 (List.mem_of_getElem? (i := 68) rfl)
set_option maxRecDepth 100000 in
theorem wd_600 : Cond.instanceMethod ⟨"AntTrails", "over", "()I"⟩ ∈ lw_tbl := mt3 (List.mem_of_getElem? (i := 69) rfl)
set_option maxRecDepth 100000 in
theorem wd_601 : Cond.selects "AntTrails" ⟨"AntTrails", "over", "()I"⟩ ⟨"AntTrails", "over", "()I"⟩ ∈ lw_tbl := mt3 (List.mem_of_getElem? (i := 70) rfl)
set_option maxRecDepth 100000 in
theorem wd_602 : Cond.code ⟨"AntTrails", "over", "()I"⟩ prog_1_method_15_code 2 (some .int) ∈ lw_tbl := mt3 (List.mem_of_getElem? (i := 71) rfl)
set_option maxRecDepth 100000 in
theorem wd_603 : Cond.methodLink "AntTrailsLaw" 74 ⟨"AntTrails", "ant", "(I)I"⟩ ∈ lw_tbl := mt3 (List.mem_of_getElem? (i := 72) rfl)
set_option maxRecDepth 100000 in
theorem wd_604 : Cond.instanceMethod ⟨"AntTrails", "ant", "(I)I"⟩ ∈ lw_tbl := mt3 (List.mem_of_getElem? (i := 73) rfl)
set_option maxRecDepth 100000 in
theorem wd_605 : Cond.selects "AntTrails" ⟨"AntTrails", "ant", "(I)I"⟩ ⟨"AntTrails", "ant", "(I)I"⟩ ∈ lw_tbl := mt3 (List.mem_of_getElem? (i := 74) rfl)
set_option maxRecDepth 100000 in
theorem wd_606 : Cond.code ⟨"AntTrails", "ant", "(I)I"⟩ prog_1_method_16_code 3 (some .int) ∈ lw_tbl := mt3 (List.mem_of_getElem? (i := 75) rfl)
set_option maxRecDepth 100000 in
theorem wd_607 : Cond.methodLink "AntTrails" 186 ⟨"AntTrails$Ground", "copy", "(LAntTrails$Ground;LAntTrails$Ground;)V"⟩ ∈ lw_tbl := mt3 (List.mem_of_getElem? (i := 76) rfl)
set_option maxRecDepth 100000 in
theorem wd_608 : Cond.methodLink "AntTrails" 190 ⟨"AntTrails$Colony", "walk", "(LAntTrails$Ground;)I"⟩ ∈ lw_tbl := mt3 (List.mem_of_getElem? (i := 77) rfl)
set_option maxRecDepth 100000 in
theorem wd_609 : Cond.methodLink "AntTrailsLaw" 78 ⟨"AntTrails", "would", "(II)I"⟩ ∈ lw_tbl := mt3 (List.mem_of_getElem? (i := 78) rfl)
set_option maxRecDepth 100000 in
theorem wd_610 : Cond.instanceMethod ⟨"AntTrails", "would", "(II)I"⟩ ∈ lw_tbl := mt3 (List.mem_of_getElem? (i := 79) rfl)
set_option maxRecDepth 100000 in
theorem wd_611 : Cond.selects "AntTrails" ⟨"AntTrails", "would", "(II)I"⟩ ⟨"AntTrails", "would", "(II)I"⟩ ∈ lw_tbl := mt3 (List.mem_of_getElem? (i := 80) rfl)
set_option maxRecDepth 100000 in
theorem wd_612 : Cond.code ⟨"AntTrails", "would", "(II)I"⟩ prog_1_method_17_code 4 (some .int) ∈ lw_tbl := mt3 (List.mem_of_getElem? (i := 81) rfl)
set_option maxRecDepth 100000 in
theorem wd_613 : Cond.methodLink "AntTrails" 195 ⟨"AntTrails", "isError", "(I)Z"⟩ ∈ lw_tbl := mt3 (List.mem_of_getElem? (i := 82) rfl)
set_option maxRecDepth 100000 in
theorem wd_614 : Cond.methodLink "AntTrails" 201 ⟨"AntTrails$Ground", "allTrails", "()I"⟩ ∈ lw_tbl := mt3 (List.mem_of_getElem? (i := 83) rfl)
set_option maxRecDepth 100000 in
theorem wd_615 : Cond.methodLink "AntTrailsLaw" 82 ⟨"AntTrails", "count", "(I)I"⟩ ∈ lw_tbl := mt3 (List.mem_of_getElem? (i := 84) rfl)
set_option maxRecDepth 100000 in
theorem wd_616 : Cond.instanceMethod ⟨"AntTrails", "count", "(I)I"⟩ ∈ lw_tbl := mt3 (List.mem_of_getElem? (i := 85) rfl)
set_option maxRecDepth 100000 in
theorem wd_617 : Cond.selects "AntTrails" ⟨"AntTrails", "count", "(I)I"⟩ ⟨"AntTrails", "count", "(I)I"⟩ ∈ lw_tbl := mt3 (List.mem_of_getElem? (i := 86) rfl)
set_option maxRecDepth 100000 in
theorem wd_618 : Cond.code ⟨"AntTrails", "count", "(I)I"⟩ prog_1_method_18_code 2 (some .int) ∈ lw_tbl := mt3 (List.mem_of_getElem? (i := 87) rfl)
set_option maxRecDepth 100000 in
theorem wd_619 : Cond.methodLink "AntTrails" 204 ⟨"AntTrails$Ground", "setting", "(I)I"⟩ ∈ lw_tbl := mt3 (List.mem_of_getElem? (i := 88) rfl)
set_option maxRecDepth 100000 in
theorem wd_620 : Cond.methodLink "AntTrails" 213 ⟨"AntTrails$Ground", "openPaths", "()I"⟩ ∈ lw_tbl := mt3 (List.mem_of_getElem? (i := 89) rfl)
set_option maxRecDepth 100000 in
theorem wd_621 : Cond.methodLink "AntTrails" 219 ⟨"AntTrails$Ground", "greatestTrail", "()I"⟩ ∈ lw_tbl := mt3 (List.mem_of_getElem? (i := 90) rfl)
set_option maxRecDepth 100000 in
theorem wd_622 : Cond.instanceMethod ⟨"AntTrails$Ground", "greatestTrail", "()I"⟩ ∈ lw_tbl := mt3 (List.mem_of_getElem? (i := 91) rfl)
set_option maxRecDepth 100000 in
theorem wd_623 : Cond.selects "AntTrails$Ground" ⟨"AntTrails$Ground", "greatestTrail", "()I"⟩ ⟨"AntTrails$Ground", "greatestTrail", "()I"⟩ ∈ lw_tbl := mt3 (List.mem_of_getElem? (i := 92) rfl)
set_option maxRecDepth 100000 in
theorem wd_624 : Cond.code ⟨"AntTrails$Ground", "greatestTrail", "()I"⟩ prog_3_method_16_code 3 (some .int) ∈ lw_tbl := mt3 (List.mem_of_getElem? (i := 93) rfl)
set_option maxRecDepth 100000 in
theorem wd_625 : Cond.methodLink "AntTrailsLaw" 86 ⟨"AntTrails", "undo", "()I"⟩ ∈ lw_tbl := mt3 (List.mem_of_getElem? (i := 94) rfl)
set_option maxRecDepth 100000 in
theorem wd_626 : Cond.instanceMethod ⟨"AntTrails", "undo", "()I"⟩ ∈ lw_tbl := mt3 (List.mem_of_getElem? (i := 95) rfl)
set_option maxRecDepth 100000 in
theorem wd_627 : Cond.selects "AntTrails" ⟨"AntTrails", "undo", "()I"⟩ ⟨"AntTrails", "undo", "()I"⟩ ∈ lw_tbl := mt3 (List.mem_of_getElem? (i := 96) rfl)
set_option maxRecDepth 100000 in
theorem wd_628 : Cond.code ⟨"AntTrails", "undo", "()I"⟩ prog_1_method_19_code 1 (some .int) ∈ lw_tbl := mt3 (List.mem_of_getElem? (i := 97) rfl)
set_option maxRecDepth 100000 in
theorem wd_629 : Cond.methodLink "AntTrails" 229 ⟨"AntTrails$History", "restore", "(LAntTrails$Ground;)I"⟩ ∈ lw_tbl := mt3 (List.mem_of_getElem? (i := 98) rfl)
set_option maxRecDepth 100000 in
theorem wd_630 : Cond.instanceMethod ⟨"AntTrails$History", "restore", "(LAntTrails$Ground;)I"⟩ ∈ lw_tbl := mt3 (List.mem_of_getElem? (i := 99) rfl)
set_option maxRecDepth 100000 in
theorem wd_631 : Cond.selects "AntTrails$History" ⟨"AntTrails$History", "restore", "(LAntTrails$Ground;)I"⟩ ⟨"AntTrails$History", "restore", "(LAntTrails$Ground;)I"⟩ ∈ lw_tbl := mt3 (List.mem_of_getElem? (i := 100) rfl)
set_option maxRecDepth 100000 in
theorem wd_632 : Cond.code ⟨"AntTrails$History", "restore", "(LAntTrails$Ground;)I"⟩ prog_4_method_5_code 2 (some .int) ∈ lw_tbl := mt3 (List.mem_of_getElem? (i := 101) rfl)
set_option maxRecDepth 100000 in
theorem wd_633 : Cond.constant "AntTrails$History" 33 (-1000000002) ∈ lw_tbl := mt3 (List.mem_of_getElem? (i := 102) rfl)
set_option maxRecDepth 100000 in
theorem wd_634 : Cond.methodLink "AntTrailsLaw" 90 ⟨"AntTrails", "type", "(I)I"⟩ ∈ lw_tbl := mt3 (List.mem_of_getElem? (i := 103) rfl)
set_option maxRecDepth 100000 in
theorem wd_635 : Cond.instanceMethod ⟨"AntTrails", "type", "(I)I"⟩ ∈ lw_tbl := mt3 (List.mem_of_getElem? (i := 104) rfl)
set_option maxRecDepth 100000 in
theorem wd_636 : Cond.selects "AntTrails" ⟨"AntTrails", "type", "(I)I"⟩ ⟨"AntTrails", "type", "(I)I"⟩ ∈ lw_tbl := mt3 (List.mem_of_getElem? (i := 105) rfl)
set_option maxRecDepth 100000 in
theorem wd_637 : Cond.code ⟨"AntTrails", "type", "(I)I"⟩ prog_1_method_20_code 2 (some .int) ∈ lw_tbl := mt3 (List.mem_of_getElem? (i := 106) rfl)
set_option maxRecDepth 100000 in
theorem wd_638 : Cond.methodLink "AntTrails" 232 ⟨"AntTrails$Orders", "append", "(I)I"⟩ ∈ lw_tbl := mt3 (List.mem_of_getElem? (i := 107) rfl)
set_option maxRecDepth 100000 in
theorem wd_639 : Cond.instanceMethod ⟨"AntTrails$Orders", "append", "(I)I"⟩ ∈ lw_tbl := mt3 (List.mem_of_getElem? (i := 108) rfl)
set_option maxRecDepth 100000 in
theorem wd_640 : Cond.selects "AntTrails$Orders" ⟨"AntTrails$Orders", "append", "(I)I"⟩ ⟨"AntTrails$Orders", "append", "(I)I"⟩ ∈ lw_tbl := mt3 (List.mem_of_getElem? (i := 109) rfl)
set_option maxRecDepth 100000 in
theorem wd_641 : Cond.code ⟨"AntTrails$Orders", "append", "(I)I"⟩ prog_5_method_2_code 2 (some .int) ∈ lw_tbl := mt3 (List.mem_of_getElem? (i := 110) rfl)
set_option maxRecDepth 100000 in
theorem wd_642 : Cond.methodLinkNest "AntTrails$Orders" 38 ⟨"AntTrails", "isWithin", "(III)Z"⟩ "AntTrails" ∈ lw_tbl := mt3 (List.mem_of_getElem? (i := 111) rfl)
set_option maxRecDepth 100000 in
theorem wd_643 : Cond.constant "AntTrails$Orders" 42 (-1000000001) ∈ lw_tbl := mt3 (List.mem_of_getElem? (i := 112) rfl)
set_option maxRecDepth 100000 in
theorem wd_644 : Cond.constant "AntTrails$Orders" 43 (-1000000003) ∈ lw_tbl := mt3 (List.mem_of_getElem? (i := 113) rfl)
set_option maxRecDepth 100000 in
theorem wd_645 : Cond.methodLink "AntTrailsLaw" 94 ⟨"AntTrails", "clearText", "()I"⟩ ∈ lw_tbl := mt3 (List.mem_of_getElem? (i := 114) rfl)
set_option maxRecDepth 100000 in
theorem wd_646 : Cond.instanceMethod ⟨"AntTrails", "clearText", "()I"⟩ ∈ lw_tbl := mt3 (List.mem_of_getElem? (i := 115) rfl)
set_option maxRecDepth 100000 in
theorem wd_647 : Cond.selects "AntTrails" ⟨"AntTrails", "clearText", "()I"⟩ ⟨"AntTrails", "clearText", "()I"⟩ ∈ lw_tbl := mt3 (List.mem_of_getElem? (i := 116) rfl)
set_option maxRecDepth 100000 in
theorem wd_648 : Cond.code ⟨"AntTrails", "clearText", "()I"⟩ prog_1_method_21_code 1 (some .int) ∈ lw_tbl := mt3 (List.mem_of_getElem? (i := 117) rfl)
set_option maxRecDepth 100000 in
theorem wd_649 : Cond.methodLink "AntTrails" 235 ⟨"AntTrails$Orders", "clear", "()I"⟩ ∈ lw_tbl := mt3 (List.mem_of_getElem? (i := 118) rfl)
set_option maxRecDepth 100000 in
theorem wd_650 : Cond.instanceMethod ⟨"AntTrails$Orders", "clear", "()I"⟩ ∈ lw_tbl := mt3 (List.mem_of_getElem? (i := 119) rfl)
set_option maxRecDepth 100000 in
theorem wd_651 : Cond.selects "AntTrails$Orders" ⟨"AntTrails$Orders", "clear", "()I"⟩ ⟨"AntTrails$Orders", "clear", "()I"⟩ ∈ lw_tbl := mt3 (List.mem_of_getElem? (i := 120) rfl)
set_option maxRecDepth 100000 in
theorem wd_652 : Cond.code ⟨"AntTrails$Orders", "clear", "()I"⟩ prog_5_method_3_code 2 (some .int) ∈ lw_tbl := mt3 (List.mem_of_getElem? (i := 121) rfl)
set_option maxRecDepth 100000 in
theorem wd_653 : Cond.methodLink "AntTrailsLaw" 98 ⟨"AntTrails", "fault", "(I)I"⟩ ∈ lw_tbl := mt3 (List.mem_of_getElem? (i := 122) rfl)
set_option maxRecDepth 100000 in
theorem wd_654 : Cond.instanceMethod ⟨"AntTrails", "fault", "(I)I"⟩ ∈ lw_tbl := mt3 (List.mem_of_getElem? (i := 123) rfl)
set_option maxRecDepth 100000 in
theorem wd_655 : Cond.selects "AntTrails" ⟨"AntTrails", "fault", "(I)I"⟩ ⟨"AntTrails", "fault", "(I)I"⟩ ∈ lw_tbl := mt3 (List.mem_of_getElem? (i := 124) rfl)
set_option maxRecDepth 100000 in
theorem wd_656 : Cond.code ⟨"AntTrails", "fault", "(I)I"⟩ prog_1_method_22_code 2 (some .int) ∈ lw_tbl := mt3 (List.mem_of_getElem? (i := 125) rfl)
set_option maxRecDepth 100000 in
theorem wd_657 : Cond.methodLink "AntTrails" 238 ⟨"AntTrails$Orders", "carryOut", "(LAntTrails$Ground;LAntTrails$Colony;)I"⟩ ∈ lw_tbl := mt3 (List.mem_of_getElem? (i := 126) rfl)
set_option maxRecDepth 100000 in
theorem wd_658 : Cond.instanceMethod ⟨"AntTrails$Orders", "carryOut", "(LAntTrails$Ground;LAntTrails$Colony;)I"⟩ ∈ lw_tbl := mt3 (List.mem_of_getElem? (i := 127) rfl)
set_option maxRecDepth 100000 in
theorem wd_659 : Cond.selects "AntTrails$Orders" ⟨"AntTrails$Orders", "carryOut", "(LAntTrails$Ground;LAntTrails$Colony;)I"⟩ ⟨"AntTrails$Orders", "carryOut", "(LAntTrails$Ground;LAntTrails$Colony;)I"⟩ ∈ lw_tbl := mt3 (List.mem_of_getElem? (i := 128) rfl)
set_option maxRecDepth 100000 in
theorem wd_660 : Cond.code ⟨"AntTrails$Orders", "carryOut", "(LAntTrails$Ground;LAntTrails$Colony;)I"⟩ prog_5_method_4_code 6 (some .int) ∈ lw_tbl := mt3 (List.mem_of_getElem? (i := 129) rfl)
set_option maxRecDepth 100000 in
theorem wd_661 : Cond.methodLink "AntTrails$Orders" 44 ⟨"AntTrails$Orders", "read", "(I)Z"⟩ ∈ lw_tbl := mt3 (List.mem_of_getElem? (i := 130) rfl)
set_option maxRecDepth 100000 in
theorem wd_663 : Cond.instanceMethod ⟨"AntTrails$Orders", "read", "(I)Z"⟩ ∈ lw_tbl := mt3 (List.mem_of_getElem? (i := 132) rfl)
set_option maxRecDepth 100000 in
theorem wd_664 : Cond.code ⟨"AntTrails$Orders", "read", "(I)Z"⟩ prog_5_method_7_code 4 (some .boolean) ∈ lw_tbl := mt3 (List.mem_of_getElem? (i := 133) rfl)
set_option maxRecDepth 100000 in
theorem wd_665 : Cond.methodLink "AntTrails$Orders" 83 ⟨"AntTrails$Orders", "signHere", "()C"⟩ ∈ lw_tbl := mt3 (List.mem_of_getElem? (i := 134) rfl)
set_option maxRecDepth 100000 in
theorem wd_667 : Cond.instanceMethod ⟨"AntTrails$Orders", "signHere", "()C"⟩ ∈ lw_tbl := mt3 (List.mem_of_getElem? (i := 136) rfl)
set_option maxRecDepth 100000 in
theorem wd_668 : Cond.code ⟨"AntTrails$Orders", "signHere", "()C"⟩ prog_5_method_9_code 1 (some .char) ∈ lw_tbl := mt3 (List.mem_of_getElem? (i := 137) rfl)
set_option maxRecDepth 100000 in
theorem wd_669 : Cond.methodLink "AntTrails$Orders" 87 ⟨"AntTrails$Orders", "numbersOf", "(I)I"⟩ ∈ lw_tbl := mt3 (List.mem_of_getElem? (i := 138) rfl)
set_option maxRecDepth 100000 in
theorem wd_670 : Cond.static ⟨"AntTrails$Orders", "numbersOf", "(I)I"⟩ ∈ lw_tbl := mt3 (List.mem_of_getElem? (i := 139) rfl)
set_option maxRecDepth 100000 in
theorem wd_671 : Cond.code ⟨"AntTrails$Orders", "numbersOf", "(I)I"⟩ prog_5_method_8_code 1 (some .int) ∈ lw_tbl := mt3 (List.mem_of_getElem? (i := 140) rfl)
set_option maxRecDepth 100000 in
theorem wd_672 : Cond.methodLink "AntTrails$Orders" 90 ⟨"AntTrails$Orders", "skip", "(C)Z"⟩ ∈ lw_tbl := mt3 (List.mem_of_getElem? (i := 141) rfl)
set_option maxRecDepth 100000 in
theorem wd_674 : Cond.instanceMethod ⟨"AntTrails$Orders", "skip", "(C)Z"⟩ ∈ lw_tbl := mt3 (List.mem_of_getElem? (i := 143) rfl)
set_option maxRecDepth 100000 in
theorem wd_675 : Cond.code ⟨"AntTrails$Orders", "skip", "(C)Z"⟩ prog_5_method_10_code 2 (some .boolean) ∈ lw_tbl := mt3 (List.mem_of_getElem? (i := 144) rfl)
set_option maxRecDepth 100000 in
theorem wd_676 : Cond.methodLink "AntTrails$Orders" 94 ⟨"AntTrails$Orders", "readNumber", "(I)Z"⟩ ∈ lw_tbl := mt3 (List.mem_of_getElem? (i := 145) rfl)
set_option maxRecDepth 100000 in
theorem wd_678 : Cond.instanceMethod ⟨"AntTrails$Orders", "readNumber", "(I)Z"⟩ ∈ lw_tbl := mt3 (List.mem_of_getElem? (i := 147) rfl)
set_option maxRecDepth 100000 in
theorem wd_679 : Cond.code ⟨"AntTrails$Orders", "readNumber", "(I)Z"⟩ prog_5_method_11_code 4 (some .boolean) ∈ lw_tbl := mt3 (List.mem_of_getElem? (i := 148) rfl)
set_option maxRecDepth 100000 in
theorem wd_680 : Cond.methodLink "AntTrails$Orders" 48 ⟨"AntTrails$Orders", "noteFault", "(III)V"⟩ ∈ lw_tbl := mt3 (List.mem_of_getElem? (i := 149) rfl)
set_option maxRecDepth 100000 in
theorem wd_682 : Cond.instanceMethod ⟨"AntTrails$Orders", "noteFault", "(III)V"⟩ ∈ lw_tbl := mt3 (List.mem_of_getElem? (i := 151) rfl)
set_option maxRecDepth 100000 in
theorem wd_683 : Cond.code ⟨"AntTrails$Orders", "noteFault", "(III)V"⟩ prog_5_method_5_code 4 none ∈ lw_tbl := mt3 (List.mem_of_getElem? (i := 152) rfl)
set_option maxRecDepth 100000 in
theorem wd_684 : Cond.methodLink "AntTrails$Orders" 52 ⟨"AntTrails$Orders", "carryOutOne", "(LAntTrails$Ground;LAntTrails$Colony;)I"⟩ ∈ lw_tbl := mt3 (List.mem_of_getElem? (i := 153) rfl)
set_option maxRecDepth 100000 in
theorem wd_686 : Cond.instanceMethod ⟨"AntTrails$Orders", "carryOutOne", "(LAntTrails$Ground;LAntTrails$Colony;)I"⟩ ∈ lw_tbl := mt3 (List.mem_of_getElem? (i := 155) rfl)
set_option maxRecDepth 100000 in
theorem wd_687 : Cond.code ⟨"AntTrails$Orders", "carryOutOne", "(LAntTrails$Ground;LAntTrails$Colony;)I"⟩ prog_5_method_6_code 3 (some .int) ∈ lw_tbl := mt3 (List.mem_of_getElem? (i := 156) rfl)
set_option maxRecDepth 100000 in
theorem wd_688 : Cond.methodLink "AntTrails$Orders" 59 ⟨"AntTrails$Ground", "addPath", "(III)I"⟩ ∈ lw_tbl := mt3 (List.mem_of_getElem? (i := 157) rfl)
set_option maxRecDepth 100000 in
theorem wd_689 : Cond.methodLink "AntTrails$Orders" 65 ⟨"AntTrails$Ground", "bar", "(IZ)I"⟩ ∈ lw_tbl := mt3 (List.mem_of_getElem? (i := 158) rfl)
set_option maxRecDepth 100000 in
theorem wd_690 : Cond.methodLink "AntTrails$Orders" 69 ⟨"AntTrails$Ground", "moveFood", "(I)I"⟩ ∈ lw_tbl := mt3 (List.mem_of_getElem? (i := 159) rfl)
set_option maxRecDepth 100000 in
theorem wd_691 : Cond.methodLink "AntTrails$Orders" 73 ⟨"AntTrails$Ground", "changeSetting", "(II)I"⟩ ∈ lw_tbl := mt3 (List.mem_of_getElem? (i := 160) rfl)
set_option maxRecDepth 100000 in
theorem wd_692 : Cond.methodLink "AntTrails$Orders" 77 ⟨"AntTrails$Colony", "passLaps", "(LAntTrails$Ground;I)I"⟩ ∈ lw_tbl := mt3 (List.mem_of_getElem? (i := 161) rfl)
set_option maxRecDepth 100000 in
theorem wd_693 : Cond.methodLinkNest "AntTrails$Orders" 56 ⟨"AntTrails", "isError", "(I)Z"⟩ "AntTrails" ∈ lw_tbl := mt3 (List.mem_of_getElem? (i := 162) rfl)
set_option maxRecDepth 100000 in
theorem wd_694 : Cond.methodLink "AntTrailsLaw" 102 ⟨"AntTrails", "play", "()I"⟩ ∈ lw_tbl := mt3 (List.mem_of_getElem? (i := 163) rfl)
set_option maxRecDepth 100000 in
theorem wd_695 : Cond.instanceMethod ⟨"AntTrails", "play", "()I"⟩ ∈ lw_tbl := mt3 (List.mem_of_getElem? (i := 164) rfl)
set_option maxRecDepth 100000 in
theorem wd_696 : Cond.selects "AntTrails" ⟨"AntTrails", "play", "()I"⟩ ⟨"AntTrails", "play", "()I"⟩ ∈ lw_tbl := mt3 (List.mem_of_getElem? (i := 165) rfl)
set_option maxRecDepth 100000 in
theorem wd_697 : Cond.code ⟨"AntTrails", "play", "()I"⟩ prog_1_method_23_code 2 (some .int) ∈ lw_tbl := mt3 (List.mem_of_getElem? (i := 166) rfl)
set_option maxRecDepth 100000 in
theorem wd_698 : Cond.classLink "AntTrailsLaw" 10 "AntTrailsModel" ∈ lw_tbl := mt3 (List.mem_of_getElem? (i := 167) rfl)
set_option maxRecDepth 100000 in
theorem wd_699 : Cond.instantiable "AntTrailsModel" 23 ∈ lw_tbl := mt3 (List.mem_of_getElem? (i := 168) rfl)
set_option maxRecDepth 100000 in
theorem wd_700 : Cond.methodLink "AntTrailsLaw" 12 ⟨"AntTrailsModel", "<init>", "()V"⟩ ∈ lw_tbl := mt3 (List.mem_of_getElem? (i := 169) rfl)
set_option maxRecDepth 100000 in
theorem wd_701 : Cond.instanceMethod ⟨"AntTrailsModel", "<init>", "()V"⟩ ∈ lw_tbl := mt3 (List.mem_of_getElem? (i := 170) rfl)
set_option maxRecDepth 100000 in
theorem wd_702 : Cond.code ⟨"AntTrailsModel", "<init>", "()V"⟩ prog_9_method_1_code 1 none ∈ lw_tbl := mt3 (List.mem_of_getElem? (i := 171) rfl)
set_option maxRecDepth 100000 in
theorem wd_703 : Cond.methodLink "AntTrailsModel" 1 ⟨"java/lang/Object", "<init>", "()V"⟩ ∈ lw_tbl := mt3 (List.mem_of_getElem? (i := 172) rfl)
set_option maxRecDepth 100000 in
theorem wd_704 : Cond.fieldLink "AntTrailsModel" 7 "AntTrailsModel" "s" "[I" ∈ lw_tbl := mt3 (List.mem_of_getElem? (i := 173) rfl)
set_option maxRecDepth 100000 in
theorem wd_705 : Cond.fieldLink "AntTrailsModel" 13 "AntTrailsModel" "begun" "[I" ∈ lw_tbl := mt3 (List.mem_of_getElem? (i := 174) rfl)
set_option maxRecDepth 100000 in
theorem wd_706 : Cond.fieldLink "AntTrailsModel" 16 "AntTrailsModel" "aside" "[I" ∈ lw_tbl := mt3 (List.mem_of_getElem? (i := 175) rfl)
set_option maxRecDepth 100000 in
theorem wd_707 : Cond.fieldLink "AntTrailsModel" 19 "AntTrailsModel" "past" "[I" ∈ lw_tbl := mt3 (List.mem_of_getElem? (i := 176) rfl)
set_option maxRecDepth 100000 in
theorem wd_708 : Cond.fieldLink "AntTrailsModel" 54 "AntTrailsModel" "states" "I" ∈ lw_tbl := mt3 (List.mem_of_getElem? (i := 177) rfl)
set_option maxRecDepth 100000 in
theorem wd_709 : Cond.fieldLink "AntTrailsModel" 22 "AntTrailsModel" "text" "[I" ∈ lw_tbl := mt3 (List.mem_of_getElem? (i := 178) rfl)
set_option maxRecDepth 100000 in
theorem wd_710 : Cond.fieldLink "AntTrailsModel" 195 "AntTrailsModel" "length" "I" ∈ lw_tbl := mt3 (List.mem_of_getElem? (i := 179) rfl)
set_option maxRecDepth 100000 in
theorem wd_711 : Cond.fieldLink "AntTrailsModel" 25 "AntTrailsModel" "away" "[I" ∈ lw_tbl := mt3 (List.mem_of_getElem? (i := 180) rfl)
set_option maxRecDepth 100000 in
theorem wd_712 : Cond.fieldLink "AntTrailsModel" 68 "AntTrailsModel" "here" "I" ∈ lw_tbl := mt3 (List.mem_of_getElem? (i := 181) rfl)
set_option maxRecDepth 100000 in
theorem wd_713 : Cond.fieldLink "AntTrailsModel" 71 "AntTrailsModel" "wayLong" "I" ∈ lw_tbl := mt3 (List.mem_of_getElem? (i := 182) rfl)
set_option maxRecDepth 100000 in
theorem wd_714 : Cond.fieldLink "AntTrailsModel" 74 "AntTrailsModel" "wayMany" "I" ∈ lw_tbl := mt3 (List.mem_of_getElem? (i := 183) rfl)
set_option maxRecDepth 100000 in
theorem wd_715 : Cond.fieldLink "AntTrailsModel" 77 "AntTrailsModel" "waySet" "I" ∈ lw_tbl := mt3 (List.mem_of_getElem? (i := 184) rfl)
set_option maxRecDepth 100000 in
theorem wd_716 : Cond.fieldLink "AntTrailsModel" 80 "AntTrailsModel" "been" "I" ∈ lw_tbl := mt3 (List.mem_of_getElem? (i := 185) rfl)
set_option maxRecDepth 100000 in
theorem wd_717 : Cond.fieldLink "AntTrailsModel" 83 "AntTrailsModel" "why" "I" ∈ lw_tbl := mt3 (List.mem_of_getElem? (i := 186) rfl)
set_option maxRecDepth 100000 in
theorem wd_718 : Cond.fieldLink "AntTrailsModel" 28 "AntTrailsModel" "way" "[I" ∈ lw_tbl := mt3 (List.mem_of_getElem? (i := 187) rfl)
set_option maxRecDepth 100000 in
theorem wd_719 : Cond.fieldLink "AntTrailsModel" 31 "AntTrailsModel" "foundSet" "[I" ∈ lw_tbl := mt3 (List.mem_of_getElem? (i := 188) rfl)
set_option maxRecDepth 100000 in
theorem wd_720 : Cond.fieldLink "AntTrailsModel" 34 "AntTrailsModel" "foundLong" "[I" ∈ lw_tbl := mt3 (List.mem_of_getElem? (i := 189) rfl)
set_option maxRecDepth 100000 in
theorem wd_721 : Cond.fieldLink "AntTrailsModel" 198 "AntTrailsModel" "spot" "I" ∈ lw_tbl := mt3 (List.mem_of_getElem? (i := 190) rfl)
set_option maxRecDepth 100000 in
theorem wd_722 : Cond.fieldLink "AntTrailsModel" 221 "AntTrailsModel" "from" "I" ∈ lw_tbl := mt3 (List.mem_of_getElem? (i := 191) rfl)
set_option maxRecDepth 100000 in
theorem wd_723 : Cond.fieldLink "AntTrailsModel" 218 "AntTrailsModel" "done" "I" ∈ lw_tbl := mt3 (List.mem_of_getElem? (i := 192) rfl)
set_option maxRecDepth 100000 in
theorem wd_724 : Cond.fieldLink "AntTrailsModel" 230 "AntTrailsModel" "told" "I" ∈ lw_tbl := mt3 (List.mem_of_getElem? (i := 193) rfl)
set_option maxRecDepth 100000 in
theorem wd_725 : Cond.fieldLink "AntTrailsModel" 201 "AntTrailsModel" "isForm" "Z" ∈ lw_tbl := mt3 (List.mem_of_getElem? (i := 194) rfl)
set_option maxRecDepth 100000 in
theorem wd_726 : Cond.fieldLink "AntTrailsModel" 37 "AntTrailsModel" "numbers" "[I" ∈ lw_tbl := mt3 (List.mem_of_getElem? (i := 195) rfl)
set_option maxRecDepth 100000 in
theorem wd_727 : Cond.laysFinal "AntTrailsModel" "AntTrailsModel" "s" "[I" ∈ lw_tbl := mt3 (List.mem_of_getElem? (i := 196) rfl)
set_option maxRecDepth 100000 in
theorem wd_729 : Cond.laysFinal "AntTrailsModel" "AntTrailsModel" "begun" "[I" ∈ lw_tbl := mt3 (List.mem_of_getElem? (i := 198) rfl)
set_option maxRecDepth 100000 in
theorem wd_731 : Cond.laysFinal "AntTrailsModel" "AntTrailsModel" "aside" "[I" ∈ lw_tbl := mt3 (List.mem_of_getElem? (i := 200) rfl)
set_option maxRecDepth 100000 in
theorem wd_733 : Cond.laysFinal "AntTrailsModel" "AntTrailsModel" "past" "[I" ∈ lw_tbl := mt3 (List.mem_of_getElem? (i := 202) rfl)
set_option maxRecDepth 100000 in
theorem wd_735 : Cond.lays "AntTrailsModel" "AntTrailsModel" "states" "I" ∈ lw_tbl := mt3 (List.mem_of_getElem? (i := 204) rfl)
set_option maxRecDepth 100000 in
theorem wd_737 : Cond.laysFinal "AntTrailsModel" "AntTrailsModel" "text" "[I" ∈ lw_tbl := mt3 (List.mem_of_getElem? (i := 206) rfl)
set_option maxRecDepth 100000 in
theorem wd_739 : Cond.lays "AntTrailsModel" "AntTrailsModel" "length" "I" ∈ lw_tbl := mt3 (List.mem_of_getElem? (i := 208) rfl)
set_option maxRecDepth 100000 in
theorem wd_741 : Cond.laysFinal "AntTrailsModel" "AntTrailsModel" "away" "[I" ∈ lw_tbl := mt3 (List.mem_of_getElem? (i := 210) rfl)
set_option maxRecDepth 100000 in
theorem wd_743 : Cond.lays "AntTrailsModel" "AntTrailsModel" "here" "I" ∈ lw_tbl := mt3 (List.mem_of_getElem? (i := 212) rfl)
set_option maxRecDepth 100000 in
theorem wd_745 : Cond.lays "AntTrailsModel" "AntTrailsModel" "wayLong" "I" ∈ lw_tbl := mt3 (List.mem_of_getElem? (i := 214) rfl)
set_option maxRecDepth 100000 in
theorem wd_747 : Cond.lays "AntTrailsModel" "AntTrailsModel" "wayMany" "I" ∈ lw_tbl := mt3 (List.mem_of_getElem? (i := 216) rfl)
set_option maxRecDepth 100000 in
theorem wd_749 : Cond.lays "AntTrailsModel" "AntTrailsModel" "waySet" "I" ∈ lw_tbl := mt3 (List.mem_of_getElem? (i := 218) rfl)
set_option maxRecDepth 100000 in
theorem wd_751 : Cond.lays "AntTrailsModel" "AntTrailsModel" "been" "I" ∈ lw_tbl := mt3 (List.mem_of_getElem? (i := 220) rfl)
set_option maxRecDepth 100000 in
theorem wd_753 : Cond.lays "AntTrailsModel" "AntTrailsModel" "why" "I" ∈ lw_tbl := mt3 (List.mem_of_getElem? (i := 222) rfl)
set_option maxRecDepth 100000 in
theorem wd_755 : Cond.laysFinal "AntTrailsModel" "AntTrailsModel" "way" "[I" ∈ lw_tbl := mt3 (List.mem_of_getElem? (i := 224) rfl)
set_option maxRecDepth 100000 in
theorem wd_757 : Cond.laysFinal "AntTrailsModel" "AntTrailsModel" "foundSet" "[I" ∈ lw_tbl := mt3 (List.mem_of_getElem? (i := 226) rfl)
set_option maxRecDepth 100000 in
theorem wd_759 : Cond.laysFinal "AntTrailsModel" "AntTrailsModel" "foundLong" "[I" ∈ lw_tbl := mt3 (List.mem_of_getElem? (i := 228) rfl)
set_option maxRecDepth 100000 in
theorem wd_761 : Cond.lays "AntTrailsModel" "AntTrailsModel" "spot" "I" ∈ lw_tbl := mt3 (List.mem_of_getElem? (i := 230) rfl)
set_option maxRecDepth 100000 in
theorem wd_763 : Cond.lays "AntTrailsModel" "AntTrailsModel" "from" "I" ∈ lw_tbl := mt3 (List.mem_of_getElem? (i := 232) rfl)
set_option maxRecDepth 100000 in
theorem wd_765 : Cond.lays "AntTrailsModel" "AntTrailsModel" "done" "I" ∈ lw_tbl := mt3 (List.mem_of_getElem? (i := 234) rfl)
set_option maxRecDepth 100000 in
theorem wd_767 : Cond.lays "AntTrailsModel" "AntTrailsModel" "told" "I" ∈ lw_tbl := mt3 (List.mem_of_getElem? (i := 236) rfl)
set_option maxRecDepth 100000 in
theorem wd_769 : Cond.lays "AntTrailsModel" "AntTrailsModel" "isForm" "Z" ∈ lw_tbl := mt3 (List.mem_of_getElem? (i := 238) rfl)
set_option maxRecDepth 100000 in
theorem wd_771 : Cond.laysFinal "AntTrailsModel" "AntTrailsModel" "numbers" "[I" ∈ lw_tbl := mt4 (List.mem_of_getElem? (i := 0) rfl)
set_option maxRecDepth 100000 in
theorem wd_774 : Cond.methodLink "AntTrailsLaw" 17 ⟨"AntTrailsModel", "place", "()I"⟩ ∈ lw_tbl := mt4 (List.mem_of_getElem? (i := 3) rfl)
set_option maxRecDepth 100000 in
theorem wd_775 : Cond.instanceMethod ⟨"AntTrailsModel", "place", "()I"⟩ ∈ lw_tbl := mt4 (List.mem_of_getElem? (i := 4) rfl)
set_option maxRecDepth 100000 in
theorem wd_776 : Cond.selects "AntTrailsModel" ⟨"AntTrailsModel", "place", "()I"⟩ ⟨"AntTrailsModel", "place", "()I"⟩ ∈ lw_tbl := mt4 (List.mem_of_getElem? (i := 5) rfl)
set_option maxRecDepth 100000 in
theorem wd_777 : Cond.code ⟨"AntTrailsModel", "place", "()I"⟩ prog_9_method_34_code 1 (some .int) ∈ lw_tbl := mt4 (List.mem_of_getElem? (i := 6) rfl)
set_option maxRecDepth 100000 in
theorem wd_778 : Cond.constant "AntTrailsModel" 128 (-1000000003) ∈ lw_tbl := mt4 (List.mem_of_getElem? (i := 7) rfl)
set_option maxRecDepth 100000 in
theorem wd_779 : Cond.methodLink "AntTrailsModel" 143 ⟨"AntTrailsModel", "begins", "()V"⟩ ∈ lw_tbl := mt4 (List.mem_of_getElem? (i := 8) rfl)
set_option maxRecDepth 100000 in
theorem wd_781 : Cond.instanceMethod ⟨"AntTrailsModel", "begins", "()V"⟩ ∈ lw_tbl := mt4 (List.mem_of_getElem? (i := 10) rfl)
set_option maxRecDepth 100000 in
theorem wd_782 : Cond.code ⟨"AntTrailsModel", "begins", "()V"⟩ prog_9_method_6_code 1 none ∈ lw_tbl := mt4 (List.mem_of_getElem? (i := 11) rfl)
set_option maxRecDepth 100000 in
theorem wd_783 : Cond.methodLink "AntTrailsModel" 46 ⟨"AntTrailsModel", "copies", "([I[I)V"⟩ ∈ lw_tbl := mt4 (List.mem_of_getElem? (i := 12) rfl)
set_option maxRecDepth 100000 in
theorem wd_784 : Cond.static ⟨"AntTrailsModel", "copies", "([I[I)V"⟩ ∈ lw_tbl := mt4 (List.mem_of_getElem? (i := 13) rfl)
set_option maxRecDepth 100000 in
theorem wd_785 : Cond.code ⟨"AntTrailsModel", "copies", "([I[I)V"⟩ prog_9_method_5_code 3 none ∈ lw_tbl := mt4 (List.mem_of_getElem? (i := 14) rfl)
set_option maxRecDepth 100000 in
theorem wd_786 : Cond.methodLink "AntTrailsModel" 146 ⟨"AntTrailsModel", "acted", "(I)I"⟩ ∈ lw_tbl := mt4 (List.mem_of_getElem? (i := 15) rfl)
set_option maxRecDepth 100000 in
theorem wd_788 : Cond.instanceMethod ⟨"AntTrailsModel", "acted", "(I)I"⟩ ∈ lw_tbl := mt4 (List.mem_of_getElem? (i := 17) rfl)
set_option maxRecDepth 100000 in
theorem wd_789 : Cond.code ⟨"AntTrailsModel", "acted", "(I)I"⟩ prog_9_method_7_code 3 (some .int) ∈ lw_tbl := mt4 (List.mem_of_getElem? (i := 18) rfl)
set_option maxRecDepth 100000 in
theorem wd_790 : Cond.methodLink "AntTrailsModel" 50 ⟨"AntTrailsModel", "isError", "(I)Z"⟩ ∈ lw_tbl := mt4 (List.mem_of_getElem? (i := 19) rfl)
set_option maxRecDepth 100000 in
theorem wd_791 : Cond.static ⟨"AntTrailsModel", "isError", "(I)Z"⟩ ∈ lw_tbl := mt4 (List.mem_of_getElem? (i := 20) rfl)
set_option maxRecDepth 100000 in
theorem wd_792 : Cond.code ⟨"AntTrailsModel", "isError", "(I)Z"⟩ prog_9_method_4_code 1 (some .boolean) ∈ lw_tbl := mt4 (List.mem_of_getElem? (i := 21) rfl)
set_option maxRecDepth 100000 in
theorem wd_793 : Cond.constant "AntTrailsModel" 40 (-1000000004) ∈ lw_tbl := mt4 (List.mem_of_getElem? (i := 22) rfl)
set_option maxRecDepth 100000 in
theorem wd_794 : Cond.constant "AntTrailsModel" 41 (-1000000001) ∈ lw_tbl := mt4 (List.mem_of_getElem? (i := 23) rfl)
set_option maxRecDepth 100000 in
theorem wd_795 : Cond.methodLink "AntTrailsModel" 42 ⟨"AntTrailsModel", "in", "(III)Z"⟩ ∈ lw_tbl := mt4 (List.mem_of_getElem? (i := 24) rfl)
set_option maxRecDepth 100000 in
theorem wd_796 : Cond.static ⟨"AntTrailsModel", "in", "(III)Z"⟩ ∈ lw_tbl := mt4 (List.mem_of_getElem? (i := 25) rfl)
set_option maxRecDepth 100000 in
theorem wd_797 : Cond.code ⟨"AntTrailsModel", "in", "(III)Z"⟩ prog_9_method_3_code 3 (some .boolean) ∈ lw_tbl := mt4 (List.mem_of_getElem? (i := 26) rfl)
set_option maxRecDepth 100000 in
theorem wd_798 : Cond.methodLink "AntTrailsLaw" 22 ⟨"AntTrailsModel", "path", "(III)I"⟩ ∈ lw_tbl := mt4 (List.mem_of_getElem? (i := 27) rfl)
set_option maxRecDepth 100000 in
theorem wd_799 : Cond.instanceMethod ⟨"AntTrailsModel", "path", "(III)I"⟩ ∈ lw_tbl := mt4 (List.mem_of_getElem? (i := 28) rfl)
set_option maxRecDepth 100000 in
theorem wd_800 : Cond.selects "AntTrailsModel" ⟨"AntTrailsModel", "path", "(III)I"⟩ ⟨"AntTrailsModel", "path", "(III)I"⟩ ∈ lw_tbl := mt4 (List.mem_of_getElem? (i := 29) rfl)
set_option maxRecDepth 100000 in
theorem wd_801 : Cond.code ⟨"AntTrailsModel", "path", "(III)I"⟩ prog_9_method_35_code 4 (some .int) ∈ lw_tbl := mt4 (List.mem_of_getElem? (i := 30) rfl)
set_option maxRecDepth 100000 in
theorem wd_802 : Cond.methodLink "AntTrailsModel" 149 ⟨"AntTrailsModel", "goPath", "(III)I"⟩ ∈ lw_tbl := mt4 (List.mem_of_getElem? (i := 31) rfl)
set_option maxRecDepth 100000 in
theorem wd_804 : Cond.instanceMethod ⟨"AntTrailsModel", "goPath", "(III)I"⟩ ∈ lw_tbl := mt4 (List.mem_of_getElem? (i := 33) rfl)
set_option maxRecDepth 100000 in
theorem wd_805 : Cond.code ⟨"AntTrailsModel", "goPath", "(III)I"⟩ prog_9_method_28_code 5 (some .int) ∈ lw_tbl := mt4 (List.mem_of_getElem? (i := 34) rfl)
set_option maxRecDepth 100000 in
theorem wd_806 : Cond.methodLink "AntTrailsModel" 125 ⟨"AntTrailsModel", "isPlace", "(I)Z"⟩ ∈ lw_tbl := mt4 (List.mem_of_getElem? (i := 35) rfl)
set_option maxRecDepth 100000 in
theorem wd_808 : Cond.instanceMethod ⟨"AntTrailsModel", "isPlace", "(I)Z"⟩ ∈ lw_tbl := mt4 (List.mem_of_getElem? (i := 37) rfl)
set_option maxRecDepth 100000 in
theorem wd_809 : Cond.code ⟨"AntTrailsModel", "isPlace", "(I)Z"⟩ prog_9_method_8_code 2 (some .boolean) ∈ lw_tbl := mt4 (List.mem_of_getElem? (i := 38) rfl)
set_option maxRecDepth 100000 in
theorem wd_810 : Cond.methodLink "AntTrailsModel" 108 ⟨"AntTrailsModel", "lays", "(III)V"⟩ ∈ lw_tbl := mt4 (List.mem_of_getElem? (i := 39) rfl)
set_option maxRecDepth 100000 in
theorem wd_812 : Cond.instanceMethod ⟨"AntTrailsModel", "lays", "(III)V"⟩ ∈ lw_tbl := mt4 (List.mem_of_getElem? (i := 41) rfl)
set_option maxRecDepth 100000 in
theorem wd_813 : Cond.code ⟨"AntTrailsModel", "lays", "(III)V"⟩ prog_9_method_11_code 4 none ∈ lw_tbl := mt4 (List.mem_of_getElem? (i := 42) rfl)
set_option maxRecDepth 100000 in
theorem wd_814 : Cond.methodLink "AntTrailsLaw" 27 ⟨"AntTrailsModel", "close", "(IZ)I"⟩ ∈ lw_tbl := mt4 (List.mem_of_getElem? (i := 43) rfl)
set_option maxRecDepth 100000 in
theorem wd_815 : Cond.instanceMethod ⟨"AntTrailsModel", "close", "(IZ)I"⟩ ∈ lw_tbl := mt4 (List.mem_of_getElem? (i := 44) rfl)
set_option maxRecDepth 100000 in
theorem wd_816 : Cond.selects "AntTrailsModel" ⟨"AntTrailsModel", "close", "(IZ)I"⟩ ⟨"AntTrailsModel", "close", "(IZ)I"⟩ ∈ lw_tbl := mt4 (List.mem_of_getElem? (i := 45) rfl)
set_option maxRecDepth 100000 in
theorem wd_817 : Cond.code ⟨"AntTrailsModel", "close", "(IZ)I"⟩ prog_9_method_36_code 3 (some .int) ∈ lw_tbl := mt4 (List.mem_of_getElem? (i := 46) rfl)
set_option maxRecDepth 100000 in
theorem wd_818 : Cond.methodLink "AntTrailsModel" 153 ⟨"AntTrailsModel", "goClose", "(II)I"⟩ ∈ lw_tbl := mt4 (List.mem_of_getElem? (i := 47) rfl)
set_option maxRecDepth 100000 in
theorem wd_820 : Cond.instanceMethod ⟨"AntTrailsModel", "goClose", "(II)I"⟩ ∈ lw_tbl := mt4 (List.mem_of_getElem? (i := 49) rfl)
set_option maxRecDepth 100000 in
theorem wd_821 : Cond.code ⟨"AntTrailsModel", "goClose", "(II)I"⟩ prog_9_method_29_code 3 (some .int) ∈ lw_tbl := mt4 (List.mem_of_getElem? (i := 50) rfl)
set_option maxRecDepth 100000 in
theorem wd_822 : Cond.methodLink "AntTrailsModel" 129 ⟨"AntTrailsModel", "isPath", "(I)Z"⟩ ∈ lw_tbl := mt4 (List.mem_of_getElem? (i := 51) rfl)
set_option maxRecDepth 100000 in
theorem wd_824 : Cond.instanceMethod ⟨"AntTrailsModel", "isPath", "(I)Z"⟩ ∈ lw_tbl := mt4 (List.mem_of_getElem? (i := 53) rfl)
set_option maxRecDepth 100000 in
theorem wd_825 : Cond.code ⟨"AntTrailsModel", "isPath", "(I)Z"⟩ prog_9_method_9_code 2 (some .boolean) ∈ lw_tbl := mt4 (List.mem_of_getElem? (i := 54) rfl)
set_option maxRecDepth 100000 in
theorem wd_826 : Cond.methodLink "AntTrailsModel" 58 ⟨"AntTrailsModel", "of", "(II)I"⟩ ∈ lw_tbl := mt4 (List.mem_of_getElem? (i := 55) rfl)
set_option maxRecDepth 100000 in
theorem wd_828 : Cond.instanceMethod ⟨"AntTrailsModel", "of", "(II)I"⟩ ∈ lw_tbl := mt4 (List.mem_of_getElem? (i := 57) rfl)
set_option maxRecDepth 100000 in
theorem wd_829 : Cond.code ⟨"AntTrailsModel", "of", "(II)I"⟩ prog_9_method_10_code 3 (some .int) ∈ lw_tbl := mt4 (List.mem_of_getElem? (i := 58) rfl)
set_option maxRecDepth 100000 in
theorem wd_830 : Cond.constant "AntTrailsModel" 132 (-1000000002) ∈ lw_tbl := mt4 (List.mem_of_getElem? (i := 59) rfl)
set_option maxRecDepth 100000 in
theorem wd_831 : Cond.methodLink "AntTrailsModel" 133 ⟨"AntTrailsModel", "openOnes", "()I"⟩ ∈ lw_tbl := mt4 (List.mem_of_getElem? (i := 60) rfl)
set_option maxRecDepth 100000 in
theorem wd_833 : Cond.instanceMethod ⟨"AntTrailsModel", "openOnes", "()I"⟩ ∈ lw_tbl := mt4 (List.mem_of_getElem? (i := 62) rfl)
set_option maxRecDepth 100000 in
theorem wd_834 : Cond.code ⟨"AntTrailsModel", "openOnes", "()I"⟩ prog_9_method_15_code 3 (some .int) ∈ lw_tbl := mt4 (List.mem_of_getElem? (i := 63) rfl)
set_option maxRecDepth 100000 in
theorem wd_835 : Cond.methodLink "AntTrailsModel" 62 ⟨"AntTrailsModel", "isOpen", "(I)Z"⟩ ∈ lw_tbl := mt4 (List.mem_of_getElem? (i := 64) rfl)
set_option maxRecDepth 100000 in
theorem wd_837 : Cond.instanceMethod ⟨"AntTrailsModel", "isOpen", "(I)Z"⟩ ∈ lw_tbl := mt4 (List.mem_of_getElem? (i := 66) rfl)
set_option maxRecDepth 100000 in
theorem wd_838 : Cond.code ⟨"AntTrailsModel", "isOpen", "(I)Z"⟩ prog_9_method_12_code 2 (some .boolean) ∈ lw_tbl := mt4 (List.mem_of_getElem? (i := 67) rfl)
set_option maxRecDepth 100000 in
theorem wd_839 : Cond.methodLink "AntTrailsLaw" 32 ⟨"AntTrailsModel", "food", "(I)I"⟩ ∈ lw_tbl := mt4 (List.mem_of_getElem? (i := 68) rfl)
set_option maxRecDepth 100000 in
theorem wd_840 : Cond.instanceMethod ⟨"AntTrailsModel", "food", "(I)I"⟩ ∈ lw_tbl := mt4 (List.mem_of_getElem? (i := 69) rfl)
set_option maxRecDepth 100000 in
theorem wd_841 : Cond.selects "AntTrailsModel" ⟨"AntTrailsModel", "food", "(I)I"⟩ ⟨"AntTrailsModel", "food", "(I)I"⟩ ∈ lw_tbl := mt4 (List.mem_of_getElem? (i := 70) rfl)
set_option maxRecDepth 100000 in
theorem wd_842 : Cond.code ⟨"AntTrailsModel", "food", "(I)I"⟩ prog_9_method_37_code 2 (some .int) ∈ lw_tbl := mt4 (List.mem_of_getElem? (i := 71) rfl)
set_option maxRecDepth 100000 in
theorem wd_843 : Cond.methodLink "AntTrailsModel" 156 ⟨"AntTrailsModel", "goFood", "(I)I"⟩ ∈ lw_tbl := mt4 (List.mem_of_getElem? (i := 72) rfl)
set_option maxRecDepth 100000 in
theorem wd_845 : Cond.instanceMethod ⟨"AntTrailsModel", "goFood", "(I)I"⟩ ∈ lw_tbl := mt4 (List.mem_of_getElem? (i := 74) rfl)
set_option maxRecDepth 100000 in
theorem wd_846 : Cond.code ⟨"AntTrailsModel", "goFood", "(I)I"⟩ prog_9_method_30_code 3 (some .int) ∈ lw_tbl := mt4 (List.mem_of_getElem? (i := 75) rfl)
set_option maxRecDepth 100000 in
theorem wd_847 : Cond.methodLink "AntTrailsLaw" 36 ⟨"AntTrailsModel", "lap", "(I)I"⟩ ∈ lw_tbl := mt4 (List.mem_of_getElem? (i := 76) rfl)
set_option maxRecDepth 100000 in
theorem wd_848 : Cond.instanceMethod ⟨"AntTrailsModel", "lap", "(I)I"⟩ ∈ lw_tbl := mt4 (List.mem_of_getElem? (i := 77) rfl)
set_option maxRecDepth 100000 in
theorem wd_849 : Cond.selects "AntTrailsModel" ⟨"AntTrailsModel", "lap", "(I)I"⟩ ⟨"AntTrailsModel", "lap", "(I)I"⟩ ∈ lw_tbl := mt4 (List.mem_of_getElem? (i := 78) rfl)
set_option maxRecDepth 100000 in
theorem wd_850 : Cond.code ⟨"AntTrailsModel", "lap", "(I)I"⟩ prog_9_method_38_code 2 (some .int) ∈ lw_tbl := mt4 (List.mem_of_getElem? (i := 79) rfl)
set_option maxRecDepth 100000 in
theorem wd_851 : Cond.methodLink "AntTrailsModel" 159 ⟨"AntTrailsModel", "goLap", "(I)I"⟩ ∈ lw_tbl := mt4 (List.mem_of_getElem? (i := 80) rfl)
set_option maxRecDepth 100000 in
theorem wd_853 : Cond.instanceMethod ⟨"AntTrailsModel", "goLap", "(I)I"⟩ ∈ lw_tbl := mt4 (List.mem_of_getElem? (i := 82) rfl)
set_option maxRecDepth 100000 in
theorem wd_854 : Cond.code ⟨"AntTrailsModel", "goLap", "(I)I"⟩ prog_9_method_31_code 3 (some .int) ∈ lw_tbl := mt4 (List.mem_of_getElem? (i := 83) rfl)
set_option maxRecDepth 100000 in
theorem wd_855 : Cond.methodLink "AntTrailsModel" 136 ⟨"AntTrailsModel", "laps", "(I)V"⟩ ∈ lw_tbl := mt4 (List.mem_of_getElem? (i := 84) rfl)
set_option maxRecDepth 100000 in
theorem wd_857 : Cond.instanceMethod ⟨"AntTrailsModel", "laps", "(I)V"⟩ ∈ lw_tbl := mt4 (List.mem_of_getElem? (i := 86) rfl)
set_option maxRecDepth 100000 in
theorem wd_858 : Cond.code ⟨"AntTrailsModel", "laps", "(I)V"⟩ prog_9_method_27_code 3 none ∈ lw_tbl := mt4 (List.mem_of_getElem? (i := 87) rfl)
set_option maxRecDepth 100000 in
theorem wd_859 : Cond.methodLink "AntTrailsModel" 122 ⟨"AntTrailsModel", "oneLap", "()V"⟩ ∈ lw_tbl := mt4 (List.mem_of_getElem? (i := 88) rfl)
set_option maxRecDepth 100000 in
theorem wd_861 : Cond.instanceMethod ⟨"AntTrailsModel", "oneLap", "()V"⟩ ∈ lw_tbl := mt4 (List.mem_of_getElem? (i := 90) rfl)
set_option maxRecDepth 100000 in
theorem wd_862 : Cond.code ⟨"AntTrailsModel", "oneLap", "()V"⟩ prog_9_method_26_code 4 none ∈ lw_tbl := mt4 (List.mem_of_getElem? (i := 91) rfl)
set_option maxRecDepth 100000 in
theorem wd_863 : Cond.methodLink "AntTrailsModel" 112 ⟨"AntTrailsModel", "antGoes", "()V"⟩ ∈ lw_tbl := mt4 (List.mem_of_getElem? (i := 92) rfl)
set_option maxRecDepth 100000 in
theorem wd_865 : Cond.instanceMethod ⟨"AntTrailsModel", "antGoes", "()V"⟩ ∈ lw_tbl := mt4 (List.mem_of_getElem? (i := 94) rfl)
set_option maxRecDepth 100000 in
theorem wd_866 : Cond.code ⟨"AntTrailsModel", "antGoes", "()V"⟩ prog_9_method_23_code 2 none ∈ lw_tbl := mt4 (List.mem_of_getElem? (i := 95) rfl)
set_option maxRecDepth 100000 in
theorem wd_867 : Cond.methodLink "AntTrailsModel" 97 ⟨"AntTrailsModel", "sets", "()V"⟩ ∈ lw_tbl := mt4 (List.mem_of_getElem? (i := 96) rfl)
set_option maxRecDepth 100000 in
theorem wd_869 : Cond.instanceMethod ⟨"AntTrailsModel", "sets", "()V"⟩ ∈ lw_tbl := mt4 (List.mem_of_getElem? (i := 98) rfl)
set_option maxRecDepth 100000 in
theorem wd_870 : Cond.code ⟨"AntTrailsModel", "sets", "()V"⟩ prog_9_method_19_code 1 none ∈ lw_tbl := mt4 (List.mem_of_getElem? (i := 99) rfl)
set_option maxRecDepth 100000 in
theorem wd_871 : Cond.methodLink "AntTrailsModel" 100 ⟨"AntTrailsModel", "draws", "()I"⟩ ∈ lw_tbl := mt4 (List.mem_of_getElem? (i := 100) rfl)
set_option maxRecDepth 100000 in
theorem wd_873 : Cond.instanceMethod ⟨"AntTrailsModel", "draws", "()I"⟩ ∈ lw_tbl := mt4 (List.mem_of_getElem? (i := 102) rfl)
set_option maxRecDepth 100000 in
theorem wd_874 : Cond.code ⟨"AntTrailsModel", "draws", "()I"⟩ prog_9_method_22_code 8 (some .int) ∈ lw_tbl := mt4 (List.mem_of_getElem? (i := 103) rfl)
set_option maxRecDepth 100000 in
theorem wd_875 : Cond.methodLink "AntTrailsModel" 86 ⟨"AntTrailsModel", "canGo", "(I)Z"⟩ ∈ lw_tbl := mt4 (List.mem_of_getElem? (i := 104) rfl)
set_option maxRecDepth 100000 in
theorem wd_877 : Cond.instanceMethod ⟨"AntTrailsModel", "canGo", "(I)Z"⟩ ∈ lw_tbl := mt4 (List.mem_of_getElem? (i := 106) rfl)
set_option maxRecDepth 100000 in
theorem wd_878 : Cond.code ⟨"AntTrailsModel", "canGo", "(I)Z"⟩ prog_9_method_20_code 3 (some .boolean) ∈ lw_tbl := mt4 (List.mem_of_getElem? (i := 107) rfl)
set_option maxRecDepth 100000 in
theorem wd_879 : Cond.methodLink "AntTrailsModel" 65 ⟨"AntTrailsModel", "end", "(II)I"⟩ ∈ lw_tbl := mt4 (List.mem_of_getElem? (i := 108) rfl)
set_option maxRecDepth 100000 in
theorem wd_881 : Cond.instanceMethod ⟨"AntTrailsModel", "end", "(II)I"⟩ ∈ lw_tbl := mt4 (List.mem_of_getElem? (i := 110) rfl)
set_option maxRecDepth 100000 in
theorem wd_882 : Cond.code ⟨"AntTrailsModel", "end", "(II)I"⟩ prog_9_method_13_code 3 (some .int) ∈ lw_tbl := mt4 (List.mem_of_getElem? (i := 111) rfl)
set_option maxRecDepth 100000 in
theorem wd_883 : Cond.methodLink "AntTrailsModel" 89 ⟨"AntTrailsModel", "weight", "(I)I"⟩ ∈ lw_tbl := mt4 (List.mem_of_getElem? (i := 112) rfl)
set_option maxRecDepth 100000 in
theorem wd_885 : Cond.instanceMethod ⟨"AntTrailsModel", "weight", "(I)I"⟩ ∈ lw_tbl := mt4 (List.mem_of_getElem? (i := 114) rfl)
set_option maxRecDepth 100000 in
theorem wd_886 : Cond.code ⟨"AntTrailsModel", "weight", "(I)I"⟩ prog_9_method_14_code 2 (some .int) ∈ lw_tbl := mt4 (List.mem_of_getElem? (i := 115) rfl)
set_option maxRecDepth 100000 in
theorem wd_887 : Cond.constantLong "AntTrailsModel" 93 (16807) ∈ lw_tbl := mt4 (List.mem_of_getElem? (i := 116) rfl)
set_option maxRecDepth 100000 in
theorem wd_888 : Cond.constantLong "AntTrailsModel" 95 (2147483647) ∈ lw_tbl := mt4 (List.mem_of_getElem? (i := 117) rfl)
set_option maxRecDepth 100000 in
theorem wd_889 : Cond.methodLink "AntTrailsModel" 104 ⟨"AntTrailsModel", "goesAlong", "(I)V"⟩ ∈ lw_tbl := mt4 (List.mem_of_getElem? (i := 118) rfl)
set_option maxRecDepth 100000 in
theorem wd_891 : Cond.instanceMethod ⟨"AntTrailsModel", "goesAlong", "(I)V"⟩ ∈ lw_tbl := mt4 (List.mem_of_getElem? (i := 120) rfl)
set_option maxRecDepth 100000 in
theorem wd_892 : Cond.code ⟨"AntTrailsModel", "goesAlong", "(I)V"⟩ prog_9_method_21_code 2 none ∈ lw_tbl := mt4 (List.mem_of_getElem? (i := 121) rfl)
set_option maxRecDepth 100000 in
theorem wd_893 : Cond.methodLink "AntTrailsModel" 115 ⟨"AntTrailsModel", "isBest", "()V"⟩ ∈ lw_tbl := mt4 (List.mem_of_getElem? (i := 122) rfl)
set_option maxRecDepth 100000 in
theorem wd_895 : Cond.instanceMethod ⟨"AntTrailsModel", "isBest", "()V"⟩ ∈ lw_tbl := mt4 (List.mem_of_getElem? (i := 124) rfl)
set_option maxRecDepth 100000 in
theorem wd_896 : Cond.code ⟨"AntTrailsModel", "isBest", "()V"⟩ prog_9_method_25_code 2 none ∈ lw_tbl := mt4 (List.mem_of_getElem? (i := 125) rfl)
set_option maxRecDepth 100000 in
theorem wd_897 : Cond.methodLink "AntTrailsModel" 118 ⟨"AntTrailsModel", "lays2", "(II)V"⟩ ∈ lw_tbl := mt4 (List.mem_of_getElem? (i := 126) rfl)
set_option maxRecDepth 100000 in
theorem wd_899 : Cond.instanceMethod ⟨"AntTrailsModel", "lays2", "(II)V"⟩ ∈ lw_tbl := mt4 (List.mem_of_getElem? (i := 128) rfl)
set_option maxRecDepth 100000 in
theorem wd_900 : Cond.code ⟨"AntTrailsModel", "lays2", "(II)V"⟩ prog_9_method_24_code 4 none ∈ lw_tbl := mt4 (List.mem_of_getElem? (i := 129) rfl)
set_option maxRecDepth 100000 in
theorem wd_901 : Cond.methodLink "AntTrailsLaw" 40 ⟨"AntTrailsModel", "forget", "()I"⟩ ∈ lw_tbl := mt4 (List.mem_of_getElem? (i := 130) rfl)
set_option maxRecDepth 100000 in
theorem wd_902 : Cond.instanceMethod ⟨"AntTrailsModel", "forget", "()I"⟩ ∈ lw_tbl := mt4 (List.mem_of_getElem? (i := 131) rfl)
set_option maxRecDepth 100000 in
theorem wd_903 : Cond.selects "AntTrailsModel" ⟨"AntTrailsModel", "forget", "()I"⟩ ⟨"AntTrailsModel", "forget", "()I"⟩ ∈ lw_tbl := mt4 (List.mem_of_getElem? (i := 132) rfl)
set_option maxRecDepth 100000 in
theorem wd_904 : Cond.code ⟨"AntTrailsModel", "forget", "()I"⟩ prog_9_method_39_code 3 (some .int) ∈ lw_tbl := mt4 (List.mem_of_getElem? (i := 133) rfl)
set_option maxRecDepth 100000 in
theorem wd_905 : Cond.methodLink "AntTrailsModel" 162 ⟨"AntTrailsModel", "trails", "()I"⟩ ∈ lw_tbl := mt4 (List.mem_of_getElem? (i := 134) rfl)
set_option maxRecDepth 100000 in
theorem wd_907 : Cond.instanceMethod ⟨"AntTrailsModel", "trails", "()I"⟩ ∈ lw_tbl := mt4 (List.mem_of_getElem? (i := 136) rfl)
set_option maxRecDepth 100000 in
theorem wd_908 : Cond.code ⟨"AntTrailsModel", "trails", "()I"⟩ prog_9_method_17_code 3 (some .int) ∈ lw_tbl := mt4 (List.mem_of_getElem? (i := 137) rfl)
set_option maxRecDepth 100000 in
theorem wd_909 : Cond.methodLink "AntTrailsLaw" 45 ⟨"AntTrailsModel", "set", "(II)I"⟩ ∈ lw_tbl := mt4 (List.mem_of_getElem? (i := 138) rfl)
set_option maxRecDepth 100000 in
theorem wd_910 : Cond.instanceMethod ⟨"AntTrailsModel", "set", "(II)I"⟩ ∈ lw_tbl := mt4 (List.mem_of_getElem? (i := 139) rfl)
set_option maxRecDepth 100000 in
theorem wd_911 : Cond.selects "AntTrailsModel" ⟨"AntTrailsModel", "set", "(II)I"⟩ ⟨"AntTrailsModel", "set", "(II)I"⟩ ∈ lw_tbl := mt4 (List.mem_of_getElem? (i := 140) rfl)
set_option maxRecDepth 100000 in
theorem wd_912 : Cond.code ⟨"AntTrailsModel", "set", "(II)I"⟩ prog_9_method_40_code 3 (some .int) ∈ lw_tbl := mt4 (List.mem_of_getElem? (i := 141) rfl)
set_option maxRecDepth 100000 in
theorem wd_913 : Cond.methodLink "AntTrailsModel" 165 ⟨"AntTrailsModel", "goSet", "(II)I"⟩ ∈ lw_tbl := mt4 (List.mem_of_getElem? (i := 142) rfl)
set_option maxRecDepth 100000 in
theorem wd_915 : Cond.instanceMethod ⟨"AntTrailsModel", "goSet", "(II)I"⟩ ∈ lw_tbl := mt4 (List.mem_of_getElem? (i := 144) rfl)
set_option maxRecDepth 100000 in
theorem wd_916 : Cond.code ⟨"AntTrailsModel", "goSet", "(II)I"⟩ prog_9_method_33_code 4 (some .int) ∈ lw_tbl := mt4 (List.mem_of_getElem? (i := 145) rfl)
set_option maxRecDepth 100000 in
theorem wd_917 : Cond.methodLink "AntTrailsModel" 139 ⟨"AntTrailsModel", "isValue", "(II)Z"⟩ ∈ lw_tbl := mt4 (List.mem_of_getElem? (i := 146) rfl)
set_option maxRecDepth 100000 in
theorem wd_918 : Cond.static ⟨"AntTrailsModel", "isValue", "(II)Z"⟩ ∈ lw_tbl := mt4 (List.mem_of_getElem? (i := 147) rfl)
set_option maxRecDepth 100000 in
theorem wd_919 : Cond.code ⟨"AntTrailsModel", "isValue", "(II)Z"⟩ prog_9_method_32_code 2 (some .boolean) ∈ lw_tbl := mt4 (List.mem_of_getElem? (i := 148) rfl)
set_option maxRecDepth 100000 in
theorem wd_920 : Cond.methodLink "AntTrailsLaw" 49 ⟨"AntTrailsModel", "pathOf", "(II)I"⟩ ∈ lw_tbl := mt4 (List.mem_of_getElem? (i := 149) rfl)
set_option maxRecDepth 100000 in
theorem wd_921 : Cond.instanceMethod ⟨"AntTrailsModel", "pathOf", "(II)I"⟩ ∈ lw_tbl := mt4 (List.mem_of_getElem? (i := 150) rfl)
set_option maxRecDepth 100000 in
theorem wd_922 : Cond.selects "AntTrailsModel" ⟨"AntTrailsModel", "pathOf", "(II)I"⟩ ⟨"AntTrailsModel", "pathOf", "(II)I"⟩ ∈ lw_tbl := mt4 (List.mem_of_getElem? (i := 151) rfl)
set_option maxRecDepth 100000 in
theorem wd_923 : Cond.code ⟨"AntTrailsModel", "pathOf", "(II)I"⟩ prog_9_method_42_code 3 (some .int) ∈ lw_tbl := mt4 (List.mem_of_getElem? (i := 152) rfl)
set_option maxRecDepth 100000 in
theorem wd_924 : Cond.methodLink "AntTrailsModel" 168 ⟨"AntTrailsModel", "inBest", "(I)I"⟩ ∈ lw_tbl := mt4 (List.mem_of_getElem? (i := 153) rfl)
set_option maxRecDepth 100000 in
theorem wd_926 : Cond.instanceMethod ⟨"AntTrailsModel", "inBest", "(I)I"⟩ ∈ lw_tbl := mt4 (List.mem_of_getElem? (i := 155) rfl)
set_option maxRecDepth 100000 in
theorem wd_927 : Cond.code ⟨"AntTrailsModel", "inBest", "(I)I"⟩ prog_9_method_41_code 2 (some .int) ∈ lw_tbl := mt4 (List.mem_of_getElem? (i := 156) rfl)
set_option maxRecDepth 100000 in
theorem wd_928 : Cond.methodLink "AntTrailsLaw" 53 ⟨"AntTrailsModel", "placeOf", "(II)I"⟩ ∈ lw_tbl := mt4 (List.mem_of_getElem? (i := 157) rfl)
set_option maxRecDepth 100000 in
theorem wd_929 : Cond.instanceMethod ⟨"AntTrailsModel", "placeOf", "(II)I"⟩ ∈ lw_tbl := mt4 (List.mem_of_getElem? (i := 158) rfl)
set_option maxRecDepth 100000 in
theorem wd_930 : Cond.selects "AntTrailsModel" ⟨"AntTrailsModel", "placeOf", "(II)I"⟩ ⟨"AntTrailsModel", "placeOf", "(II)I"⟩ ∈ lw_tbl := mt4 (List.mem_of_getElem? (i := 159) rfl)
set_option maxRecDepth 100000 in
theorem wd_931 : Cond.code ⟨"AntTrailsModel", "placeOf", "(II)I"⟩ prog_9_method_44_code 3 (some .int) ∈ lw_tbl := mt4 (List.mem_of_getElem? (i := 160) rfl)
set_option maxRecDepth 100000 in
theorem wd_932 : Cond.methodLink "AntTrailsModel" 171 ⟨"AntTrailsModel", "openAt", "(I)I"⟩ ∈ lw_tbl := mt4 (List.mem_of_getElem? (i := 161) rfl)
set_option maxRecDepth 100000 in
theorem wd_934 : Cond.instanceMethod ⟨"AntTrailsModel", "openAt", "(I)I"⟩ ∈ lw_tbl := mt4 (List.mem_of_getElem? (i := 163) rfl)
set_option maxRecDepth 100000 in
theorem wd_935 : Cond.code ⟨"AntTrailsModel", "openAt", "(I)I"⟩ prog_9_method_16_code 4 (some .int) ∈ lw_tbl := mt4 (List.mem_of_getElem? (i := 164) rfl)
set_option maxRecDepth 100000 in
theorem wd_936 : Cond.methodLink "AntTrailsModel" 174 ⟨"AntTrailsModel", "farFrom", "(I)I"⟩ ∈ lw_tbl := mt4 (List.mem_of_getElem? (i := 165) rfl)
set_option maxRecDepth 100000 in
theorem wd_938 : Cond.instanceMethod ⟨"AntTrailsModel", "farFrom", "(I)I"⟩ ∈ lw_tbl := mt4 (List.mem_of_getElem? (i := 167) rfl)
set_option maxRecDepth 100000 in
theorem wd_939 : Cond.code ⟨"AntTrailsModel", "farFrom", "(I)I"⟩ prog_9_method_18_code 7 (some .int) ∈ lw_tbl := mt4 (List.mem_of_getElem? (i := 168) rfl)
set_option maxRecDepth 100000 in
theorem wd_940 : Cond.methodLink "AntTrailsModel" 177 ⟨"AntTrailsModel", "onBest", "(I)I"⟩ ∈ lw_tbl := mt4 (List.mem_of_getElem? (i := 169) rfl)
set_option maxRecDepth 100000 in
theorem wd_942 : Cond.instanceMethod ⟨"AntTrailsModel", "onBest", "(I)I"⟩ ∈ lw_tbl := mt4 (List.mem_of_getElem? (i := 171) rfl)
set_option maxRecDepth 100000 in
theorem wd_943 : Cond.code ⟨"AntTrailsModel", "onBest", "(I)I"⟩ prog_9_method_43_code 4 (some .int) ∈ lw_tbl := mt4 (List.mem_of_getElem? (i := 172) rfl)
set_option maxRecDepth 100000 in
theorem wd_944 : Cond.methodLink "AntTrailsLaw" 57 ⟨"AntTrailsModel", "best", "(I)I"⟩ ∈ lw_tbl := mt4 (List.mem_of_getElem? (i := 173) rfl)
set_option maxRecDepth 100000 in
theorem wd_945 : Cond.instanceMethod ⟨"AntTrailsModel", "best", "(I)I"⟩ ∈ lw_tbl := mt4 (List.mem_of_getElem? (i := 174) rfl)
set_option maxRecDepth 100000 in
theorem wd_946 : Cond.selects "AntTrailsModel" ⟨"AntTrailsModel", "best", "(I)I"⟩ ⟨"AntTrailsModel", "best", "(I)I"⟩ ∈ lw_tbl := mt4 (List.mem_of_getElem? (i := 175) rfl)
set_option maxRecDepth 100000 in
theorem wd_947 : Cond.code ⟨"AntTrailsModel", "best", "(I)I"⟩ prog_9_method_45_code 2 (some .int) ∈ lw_tbl := mt4 (List.mem_of_getElem? (i := 176) rfl)
set_option maxRecDepth 100000 in
theorem wd_948 : Cond.methodLink "AntTrailsLaw" 61 ⟨"AntTrailsModel", "bestAt", "(I)I"⟩ ∈ lw_tbl := mt4 (List.mem_of_getElem? (i := 177) rfl)
set_option maxRecDepth 100000 in
theorem wd_949 : Cond.instanceMethod ⟨"AntTrailsModel", "bestAt", "(I)I"⟩ ∈ lw_tbl := mt4 (List.mem_of_getElem? (i := 178) rfl)
set_option maxRecDepth 100000 in
theorem wd_950 : Cond.selects "AntTrailsModel" ⟨"AntTrailsModel", "bestAt", "(I)I"⟩ ⟨"AntTrailsModel", "bestAt", "(I)I"⟩ ∈ lw_tbl := mt4 (List.mem_of_getElem? (i := 179) rfl)
set_option maxRecDepth 100000 in
theorem wd_951 : Cond.code ⟨"AntTrailsModel", "bestAt", "(I)I"⟩ prog_9_method_46_code 2 (some .int) ∈ lw_tbl := mt4 (List.mem_of_getElem? (i := 180) rfl)
set_option maxRecDepth 100000 in
theorem wd_952 : Cond.methodLink "AntTrailsLaw" 65 ⟨"AntTrailsModel", "chance", "(II)I"⟩ ∈ lw_tbl := mt4 (List.mem_of_getElem? (i := 181) rfl)
set_option maxRecDepth 100000 in
theorem wd_953 : Cond.instanceMethod ⟨"AntTrailsModel", "chance", "(II)I"⟩ ∈ lw_tbl := mt4 (List.mem_of_getElem? (i := 182) rfl)
set_option maxRecDepth 100000 in
theorem wd_954 : Cond.selects "AntTrailsModel" ⟨"AntTrailsModel", "chance", "(II)I"⟩ ⟨"AntTrailsModel", "chance", "(II)I"⟩ ∈ lw_tbl := mt4 (List.mem_of_getElem? (i := 183) rfl)
set_option maxRecDepth 100000 in
theorem wd_955 : Cond.code ⟨"AntTrailsModel", "chance", "(II)I"⟩ prog_9_method_47_code 5 (some .int) ∈ lw_tbl := mt4 (List.mem_of_getElem? (i := 184) rfl)
set_option maxRecDepth 100000 in
theorem wd_956 : Cond.methodLink "AntTrailsModel" 180 ⟨"java/lang/Float", "floatToIntBits", "(F)I"⟩ ∈ lw_tbl := mt4 (List.mem_of_getElem? (i := 185) rfl)
set_option maxRecDepth 100000 in
theorem wd_957 : Cond.static ⟨"java/lang/Float", "floatToIntBits", "(F)I"⟩ ∈ lw_tbl := mt4 (List.mem_of_getElem? (i := 186) rfl)
set_option maxRecDepth 100000 in
theorem wd_958 : Cond.code ⟨"java/lang/Float", "floatToIntBits", "(F)I"⟩ prog_10_method_24_code 1 (some .int) ∈ lw_tbl := mt4 (List.mem_of_getElem? (i := 187) rfl)
set_option maxRecDepth 100000 in
theorem wd_959 : Cond.methodLink "java/lang/Float" 59 ⟨"java/lang/Float", "isNaN", "(F)Z"⟩ ∈ lw_tbl := mt4 (List.mem_of_getElem? (i := 188) rfl)
set_option maxRecDepth 100000 in
theorem wd_960 : Cond.static ⟨"java/lang/Float", "isNaN", "(F)Z"⟩ ∈ lw_tbl := mt4 (List.mem_of_getElem? (i := 189) rfl)
set_option maxRecDepth 100000 in
theorem wd_961 : Cond.code ⟨"java/lang/Float", "isNaN", "(F)Z"⟩ prog_10_method_6_code 1 (some .boolean) ∈ lw_tbl := mt4 (List.mem_of_getElem? (i := 190) rfl)
set_option maxRecDepth 100000 in
theorem wd_962 : Cond.methodLink "java/lang/Float" 74 ⟨"java/lang/Float", "floatToRawIntBits", "(F)I"⟩ ∈ lw_tbl := mt4 (List.mem_of_getElem? (i := 191) rfl)
set_option maxRecDepth 100000 in
theorem wd_963 : Cond.static ⟨"java/lang/Float", "floatToRawIntBits", "(F)I"⟩ ∈ lw_tbl := mt4 (List.mem_of_getElem? (i := 192) rfl)
set_option maxRecDepth 100000 in
theorem wd_964 : Cond.native ⟨"java/lang/Float", "floatToRawIntBits", "(F)I"⟩ ∈ lw_tbl := mt4 (List.mem_of_getElem? (i := 193) rfl)
set_option maxRecDepth 100000 in
theorem wd_965 : Cond.constant "java/lang/Float" 77 (2143289344) ∈ lw_tbl := mt4 (List.mem_of_getElem? (i := 194) rfl)
set_option maxRecDepth 100000 in
theorem wd_966 : Cond.methodLink "AntTrailsLaw" 69 ⟨"AntTrailsModel", "greedy", "(I)I"⟩ ∈ lw_tbl := mt4 (List.mem_of_getElem? (i := 195) rfl)
set_option maxRecDepth 100000 in
theorem wd_967 : Cond.instanceMethod ⟨"AntTrailsModel", "greedy", "(I)I"⟩ ∈ lw_tbl := mt4 (List.mem_of_getElem? (i := 196) rfl)
set_option maxRecDepth 100000 in
theorem wd_968 : Cond.selects "AntTrailsModel" ⟨"AntTrailsModel", "greedy", "(I)I"⟩ ⟨"AntTrailsModel", "greedy", "(I)I"⟩ ∈ lw_tbl := mt4 (List.mem_of_getElem? (i := 197) rfl)
set_option maxRecDepth 100000 in
theorem wd_969 : Cond.code ⟨"AntTrailsModel", "greedy", "(I)I"⟩ prog_9_method_50_code 4 (some .int) ∈ lw_tbl := mt4 (List.mem_of_getElem? (i := 198) rfl)
set_option maxRecDepth 100000 in
theorem wd_970 : Cond.methodLink "AntTrailsModel" 189 ⟨"AntTrailsModel", "greatestOn", "()I"⟩ ∈ lw_tbl := mt4 (List.mem_of_getElem? (i := 199) rfl)
set_option maxRecDepth 100000 in
theorem wd_972 : Cond.instanceMethod ⟨"AntTrailsModel", "greatestOn", "()I"⟩ ∈ lw_tbl := mt4 (List.mem_of_getElem? (i := 201) rfl)
set_option maxRecDepth 100000 in
theorem wd_973 : Cond.code ⟨"AntTrailsModel", "greatestOn", "()I"⟩ prog_9_method_49_code 4 (some .int) ∈ lw_tbl := mt4 (List.mem_of_getElem? (i := 202) rfl)
set_option maxRecDepth 100000 in
theorem wd_974 : Cond.methodLink "AntTrailsModel" 186 ⟨"AntTrailsModel", "isGreater", "(II)Z"⟩ ∈ lw_tbl := mt4 (List.mem_of_getElem? (i := 203) rfl)
set_option maxRecDepth 100000 in
theorem wd_976 : Cond.instanceMethod ⟨"AntTrailsModel", "isGreater", "(II)Z"⟩ ∈ lw_tbl := mt4 (List.mem_of_getElem? (i := 205) rfl)
set_option maxRecDepth 100000 in
theorem wd_977 : Cond.code ⟨"AntTrailsModel", "isGreater", "(II)Z"⟩ prog_9_method_48_code 4 (some .boolean) ∈ lw_tbl := mt4 (List.mem_of_getElem? (i := 206) rfl)
set_option maxRecDepth 100000 in
theorem wd_978 : Cond.methodLink "AntTrailsLaw" 73 ⟨"AntTrailsModel", "over", "()I"⟩ ∈ lw_tbl := mt4 (List.mem_of_getElem? (i := 207) rfl)
set_option maxRecDepth 100000 in
theorem wd_979 : Cond.instanceMethod ⟨"AntTrailsModel", "over", "()I"⟩ ∈ lw_tbl := mt4 (List.mem_of_getElem? (i := 208) rfl)
set_option maxRecDepth 100000 in
theorem wd_980 : Cond.selects "AntTrailsModel" ⟨"AntTrailsModel", "over", "()I"⟩ ⟨"AntTrailsModel", "over", "()I"⟩ ∈ lw_tbl := mt4 (List.mem_of_getElem? (i := 209) rfl)
set_option maxRecDepth 100000 in
theorem wd_981 : Cond.code ⟨"AntTrailsModel", "over", "()I"⟩ prog_9_method_51_code 2 (some .int) ∈ lw_tbl := mt4 (List.mem_of_getElem? (i := 210) rfl)
set_option maxRecDepth 100000 in
theorem wd_982 : Cond.methodLink "AntTrailsLaw" 77 ⟨"AntTrailsModel", "ant", "(I)I"⟩ ∈ lw_tbl := mt4 (List.mem_of_getElem? (i := 211) rfl)
set_option maxRecDepth 100000 in
theorem wd_983 : Cond.instanceMethod ⟨"AntTrailsModel", "ant", "(I)I"⟩ ∈ lw_tbl := mt4 (List.mem_of_getElem? (i := 212) rfl)
set_option maxRecDepth 100000 in
theorem wd_984 : Cond.selects "AntTrailsModel" ⟨"AntTrailsModel", "ant", "(I)I"⟩ ⟨"AntTrailsModel", "ant", "(I)I"⟩ ∈ lw_tbl := mt4 (List.mem_of_getElem? (i := 213) rfl)
set_option maxRecDepth 100000 in
theorem wd_985 : Cond.code ⟨"AntTrailsModel", "ant", "(I)I"⟩ prog_9_method_52_code 2 (some .int) ∈ lw_tbl := mt4 (List.mem_of_getElem? (i := 214) rfl)
set_option maxRecDepth 100000 in
theorem wd_986 : Cond.methodLink "AntTrailsLaw" 81 ⟨"AntTrailsModel", "would", "(II)I"⟩ ∈ lw_tbl := mt4 (List.mem_of_getElem? (i := 215) rfl)
set_option maxRecDepth 100000 in
theorem wd_987 : Cond.instanceMethod ⟨"AntTrailsModel", "would", "(II)I"⟩ ∈ lw_tbl := mt4 (List.mem_of_getElem? (i := 216) rfl)
set_option maxRecDepth 100000 in
theorem wd_988 : Cond.selects "AntTrailsModel" ⟨"AntTrailsModel", "would", "(II)I"⟩ ⟨"AntTrailsModel", "would", "(II)I"⟩ ∈ lw_tbl := mt4 (List.mem_of_getElem? (i := 217) rfl)
set_option maxRecDepth 100000 in
theorem wd_989 : Cond.code ⟨"AntTrailsModel", "would", "(II)I"⟩ prog_9_method_53_code 4 (some .int) ∈ lw_tbl := mt4 (List.mem_of_getElem? (i := 218) rfl)
set_option maxRecDepth 100000 in
theorem wd_990 : Cond.methodLink "AntTrailsLaw" 85 ⟨"AntTrailsModel", "count", "(I)I"⟩ ∈ lw_tbl := mt4 (List.mem_of_getElem? (i := 219) rfl)
set_option maxRecDepth 100000 in
theorem wd_991 : Cond.instanceMethod ⟨"AntTrailsModel", "count", "(I)I"⟩ ∈ lw_tbl := mt4 (List.mem_of_getElem? (i := 220) rfl)
set_option maxRecDepth 100000 in
theorem wd_992 : Cond.selects "AntTrailsModel" ⟨"AntTrailsModel", "count", "(I)I"⟩ ⟨"AntTrailsModel", "count", "(I)I"⟩ ∈ lw_tbl := mt4 (List.mem_of_getElem? (i := 221) rfl)
set_option maxRecDepth 100000 in
theorem wd_993 : Cond.code ⟨"AntTrailsModel", "count", "(I)I"⟩ prog_9_method_55_code 2 (some .int) ∈ lw_tbl := mt4 (List.mem_of_getElem? (i := 222) rfl)
set_option maxRecDepth 100000 in
theorem wd_994 : Cond.methodLink "AntTrailsModel" 192 ⟨"AntTrailsModel", "greatest", "()I"⟩ ∈ lw_tbl := mt4 (List.mem_of_getElem? (i := 223) rfl)
set_option maxRecDepth 100000 in
theorem wd_996 : Cond.instanceMethod ⟨"AntTrailsModel", "greatest", "()I"⟩ ∈ lw_tbl := mt4 (List.mem_of_getElem? (i := 225) rfl)
set_option maxRecDepth 100000 in
theorem wd_997 : Cond.code ⟨"AntTrailsModel", "greatest", "()I"⟩ prog_9_method_54_code 3 (some .int) ∈ lw_tbl := mt4 (List.mem_of_getElem? (i := 226) rfl)
set_option maxRecDepth 100000 in
theorem wd_998 : Cond.methodLink "AntTrailsLaw" 89 ⟨"AntTrailsModel", "undo", "()I"⟩ ∈ lw_tbl := mt4 (List.mem_of_getElem? (i := 227) rfl)
set_option maxRecDepth 100000 in
theorem wd_999 : Cond.instanceMethod ⟨"AntTrailsModel", "undo", "()I"⟩ ∈ lw_tbl := mt4 (List.mem_of_getElem? (i := 228) rfl)
set_option maxRecDepth 100000 in
theorem wd_1000 : Cond.selects "AntTrailsModel" ⟨"AntTrailsModel", "undo", "()I"⟩ ⟨"AntTrailsModel", "undo", "()I"⟩ ∈ lw_tbl := mt4 (List.mem_of_getElem? (i := 229) rfl)
set_option maxRecDepth 100000 in
theorem wd_1001 : Cond.code ⟨"AntTrailsModel", "undo", "()I"⟩ prog_9_method_56_code 2 (some .int) ∈ lw_tbl := mt4 (List.mem_of_getElem? (i := 230) rfl)
set_option maxRecDepth 100000 in
theorem wd_1002 : Cond.methodLink "AntTrailsLaw" 93 ⟨"AntTrailsModel", "type", "(I)I"⟩ ∈ lw_tbl := mt4 (List.mem_of_getElem? (i := 231) rfl)
set_option maxRecDepth 100000 in
theorem wd_1003 : Cond.instanceMethod ⟨"AntTrailsModel", "type", "(I)I"⟩ ∈ lw_tbl := mt4 (List.mem_of_getElem? (i := 232) rfl)
set_option maxRecDepth 100000 in
theorem wd_1004 : Cond.selects "AntTrailsModel" ⟨"AntTrailsModel", "type", "(I)I"⟩ ⟨"AntTrailsModel", "type", "(I)I"⟩ ∈ lw_tbl := mt4 (List.mem_of_getElem? (i := 233) rfl)
set_option maxRecDepth 100000 in
theorem wd_1005 : Cond.code ⟨"AntTrailsModel", "type", "(I)I"⟩ prog_9_method_57_code 2 (some .int) ∈ lw_tbl := mt4 (List.mem_of_getElem? (i := 234) rfl)
set_option maxRecDepth 100000 in
theorem wd_1006 : Cond.methodLink "AntTrailsLaw" 97 ⟨"AntTrailsModel", "clearText", "()I"⟩ ∈ lw_tbl := mt4 (List.mem_of_getElem? (i := 235) rfl)
set_option maxRecDepth 100000 in
theorem wd_1007 : Cond.instanceMethod ⟨"AntTrailsModel", "clearText", "()I"⟩ ∈ lw_tbl := mt4 (List.mem_of_getElem? (i := 236) rfl)
set_option maxRecDepth 100000 in
theorem wd_1008 : Cond.selects "AntTrailsModel" ⟨"AntTrailsModel", "clearText", "()I"⟩ ⟨"AntTrailsModel", "clearText", "()I"⟩ ∈ lw_tbl := mt4 (List.mem_of_getElem? (i := 237) rfl)
set_option maxRecDepth 100000 in
theorem wd_1009 : Cond.code ⟨"AntTrailsModel", "clearText", "()I"⟩ prog_9_method_58_code 2 (some .int) ∈ lw_tbl := mt4 (List.mem_of_getElem? (i := 238) rfl)
set_option maxRecDepth 100000 in
theorem wd_1010 : Cond.methodLink "AntTrailsLaw" 101 ⟨"AntTrailsModel", "fault", "(I)I"⟩ ∈ lw_tbl := mt4 (List.mem_of_getElem? (i := 239) rfl)
set_option maxRecDepth 100000 in
theorem wd_1011 : Cond.instanceMethod ⟨"AntTrailsModel", "fault", "(I)I"⟩ ∈ lw_tbl := mt5 (List.mem_of_getElem? (i := 0) rfl)
set_option maxRecDepth 100000 in
theorem wd_1012 : Cond.selects "AntTrailsModel" ⟨"AntTrailsModel", "fault", "(I)I"⟩ ⟨"AntTrailsModel", "fault", "(I)I"⟩ ∈ lw_tbl := mt5 (List.mem_of_getElem? (i := 1) rfl)
set_option maxRecDepth 100000 in
theorem wd_1013 : Cond.code ⟨"AntTrailsModel", "fault", "(I)I"⟩ prog_9_method_66_code 3 (some .int) ∈ lw_tbl := mt5 (List.mem_of_getElem? (i := 2) rfl)
set_option maxRecDepth 100000 in
theorem wd_1014 : Cond.methodLink "AntTrailsModel" 233 ⟨"AntTrailsModel", "doesAll", "()Z"⟩ ∈ lw_tbl := mt5 (List.mem_of_getElem? (i := 3) rfl)
set_option maxRecDepth 100000 in
theorem wd_1016 : Cond.instanceMethod ⟨"AntTrailsModel", "doesAll", "()Z"⟩ ∈ lw_tbl := mt5 (List.mem_of_getElem? (i := 5) rfl)
set_option maxRecDepth 100000 in
theorem wd_1017 : Cond.code ⟨"AntTrailsModel", "doesAll", "()Z"⟩ prog_9_method_65_code 2 (some .boolean) ∈ lw_tbl := mt5 (List.mem_of_getElem? (i := 6) rfl)
set_option maxRecDepth 100000 in
theorem wd_1018 : Cond.methodLink "AntTrailsModel" 205 ⟨"AntTrailsModel", "sign", "()I"⟩ ∈ lw_tbl := mt5 (List.mem_of_getElem? (i := 7) rfl)
set_option maxRecDepth 100000 in
theorem wd_1020 : Cond.instanceMethod ⟨"AntTrailsModel", "sign", "()I"⟩ ∈ lw_tbl := mt5 (List.mem_of_getElem? (i := 9) rfl)
set_option maxRecDepth 100000 in
theorem wd_1021 : Cond.code ⟨"AntTrailsModel", "sign", "()I"⟩ prog_9_method_59_code 1 (some .int) ∈ lw_tbl := mt5 (List.mem_of_getElem? (i := 10) rfl)
set_option maxRecDepth 100000 in
theorem wd_1022 : Cond.methodLink "AntTrailsModel" 224 ⟨"AntTrailsModel", "takesOrder", "(I)V"⟩ ∈ lw_tbl := mt5 (List.mem_of_getElem? (i := 11) rfl)
set_option maxRecDepth 100000 in
theorem wd_1024 : Cond.instanceMethod ⟨"AntTrailsModel", "takesOrder", "(I)V"⟩ ∈ lw_tbl := mt5 (List.mem_of_getElem? (i := 13) rfl)
set_option maxRecDepth 100000 in
theorem wd_1025 : Cond.code ⟨"AntTrailsModel", "takesOrder", "(I)V"⟩ prog_9_method_63_code 4 none ∈ lw_tbl := mt5 (List.mem_of_getElem? (i := 14) rfl)
set_option maxRecDepth 100000 in
theorem wd_1026 : Cond.methodLink "AntTrailsModel" 212 ⟨"AntTrailsModel", "numbersOf", "(I)I"⟩ ∈ lw_tbl := mt5 (List.mem_of_getElem? (i := 15) rfl)
set_option maxRecDepth 100000 in
theorem wd_1027 : Cond.static ⟨"AntTrailsModel", "numbersOf", "(I)I"⟩ ∈ lw_tbl := mt5 (List.mem_of_getElem? (i := 16) rfl)
set_option maxRecDepth 100000 in
theorem wd_1028 : Cond.code ⟨"AntTrailsModel", "numbersOf", "(I)I"⟩ prog_9_method_62_code 1 (some .int) ∈ lw_tbl := mt5 (List.mem_of_getElem? (i := 17) rfl)
set_option maxRecDepth 100000 in
theorem wd_1029 : Cond.methodLink "AntTrailsModel" 208 ⟨"AntTrailsModel", "takes", "(Z)V"⟩ ∈ lw_tbl := mt5 (List.mem_of_getElem? (i := 18) rfl)
set_option maxRecDepth 100000 in
theorem wd_1031 : Cond.instanceMethod ⟨"AntTrailsModel", "takes", "(Z)V"⟩ ∈ lw_tbl := mt5 (List.mem_of_getElem? (i := 20) rfl)
set_option maxRecDepth 100000 in
theorem wd_1032 : Cond.code ⟨"AntTrailsModel", "takes", "(Z)V"⟩ prog_9_method_60_code 2 none ∈ lw_tbl := mt5 (List.mem_of_getElem? (i := 21) rfl)
set_option maxRecDepth 100000 in
theorem wd_1033 : Cond.methodLink "AntTrailsModel" 215 ⟨"AntTrailsModel", "number", "()I"⟩ ∈ lw_tbl := mt5 (List.mem_of_getElem? (i := 22) rfl)
set_option maxRecDepth 100000 in
theorem wd_1035 : Cond.instanceMethod ⟨"AntTrailsModel", "number", "()I"⟩ ∈ lw_tbl := mt5 (List.mem_of_getElem? (i := 24) rfl)
set_option maxRecDepth 100000 in
theorem wd_1036 : Cond.code ⟨"AntTrailsModel", "number", "()I"⟩ prog_9_method_61_code 3 (some .int) ∈ lw_tbl := mt5 (List.mem_of_getElem? (i := 25) rfl)
set_option maxRecDepth 100000 in
theorem wd_1037 : Cond.methodLink "AntTrailsModel" 227 ⟨"AntTrailsModel", "called", "(I)I"⟩ ∈ lw_tbl := mt5 (List.mem_of_getElem? (i := 26) rfl)
set_option maxRecDepth 100000 in
theorem wd_1039 : Cond.instanceMethod ⟨"AntTrailsModel", "called", "(I)I"⟩ ∈ lw_tbl := mt5 (List.mem_of_getElem? (i := 28) rfl)
set_option maxRecDepth 100000 in
theorem wd_1040 : Cond.code ⟨"AntTrailsModel", "called", "(I)I"⟩ prog_9_method_64_code 2 (some .int) ∈ lw_tbl := mt5 (List.mem_of_getElem? (i := 29) rfl)
set_option maxRecDepth 100000 in
theorem wd_1041 : Cond.methodLink "AntTrailsLaw" 105 ⟨"AntTrailsModel", "play", "()I"⟩ ∈ lw_tbl := mt5 (List.mem_of_getElem? (i := 30) rfl)
set_option maxRecDepth 100000 in
theorem wd_1042 : Cond.instanceMethod ⟨"AntTrailsModel", "play", "()I"⟩ ∈ lw_tbl := mt5 (List.mem_of_getElem? (i := 31) rfl)
set_option maxRecDepth 100000 in
theorem wd_1043 : Cond.selects "AntTrailsModel" ⟨"AntTrailsModel", "play", "()I"⟩ ⟨"AntTrailsModel", "play", "()I"⟩ ∈ lw_tbl := mt5 (List.mem_of_getElem? (i := 32) rfl)
set_option maxRecDepth 100000 in
theorem wd_1044 : Cond.code ⟨"AntTrailsModel", "play", "()I"⟩ prog_9_method_67_code 1 (some .int) ∈ lw_tbl := mt5 (List.mem_of_getElem? (i := 33) rfl)
end
section
def nOf (cv : Value) : Nat := match cv with
  | .retAddr n => n
  | _ => 0
def fe (l : List En) (pc : Nat) : Option (Instr × Nat × Nat × Nat × Nat × Nat × Value × List (Int32 × Nat)) := match l with
  | [] => none
  | e :: r => if e.1 = pc then some e.2 else fe r pc
def cN (c : Nat) : String := match vwCl[c]? with
  | some q => q.1
  | none => ""
def cT (c : Nat) : u_T := match vwCl[c]? with
  | some q => q.2.1
  | none => fun _ => ("", "", "", false)
def cF (c : Nat) : Nat := match vwCl[c]? with
  | some q => q.2.2
  | none => 0
def cY (c : Nat) : Nat → FieldType := match c with
  | 0 => tyX0
  | 1 => tyX1
  | 2 => tyX2
  | 3 => tyX3
  | 4 => tyX4
  | 5 => tyX5
  | 6 => tyX6
  | _ => tyX7
/-- the marker of a field's type: null a reference, 0 an int, 1 a boolean -/
def tcv (t : FieldType) : Value := match t with
  | .int => .int (nI 0)
  | .boolean => .int (nI 1)
  | _ => .null
def mO (m : Nat) : String := (mY m).cls
def nP (j : Nat) : Option Nat := (parseMethodDescriptor (mY j).desc).map (fun d => d.parameters.length)
def offOk (pc : Nat) (off : Int) (t : Nat) : Bool := decide ((pc : Int) + off = (t : Int))
/-- a table of a switch over consecutive numbers -/
def tswOk (pc : Nat) (lo hi : Int) (offs : Array Int) (sw : List (Int32 × Nat)) : Bool :=
  decide (sw.length = offs.size) && decide (hi = lo + offs.size - 1) && decide (-1000 < lo) && decide (hi < 1000) && (List.range offs.size).all (fun i => decide ((sw[i]?).map (fun q => q.1.toInt) = some (lo + i)) && decide ((sw[i]?).map (fun q => (q.2 : Int)) = (offs[i]?).map (fun o => (pc : Int) + o)))
def lswOk (pc : Nat) (ps : List (Int × Int)) (sw : List (Int32 × Nat)) : Bool := match ps, sw with
  | [], [] => true
  | p :: ps, q :: sw => decide (q.1.toInt = p.1) && decide ((q.2 : Int) = (pc : Int) + p.2) && lswOk pc ps sw
  | _, _ => false
def argN (cv : Value) (k b l : Nat) : Bool := match cv with
  | .retAddr n => decide (k ≤ n ∧ n + b = l)
  | _ => false
def good (m : Nat) (e : En) : Bool := match e with
  | (pc, ins, npc, a, b, d, _, cv, sw) => decide (decode (mB m) pc = .ok (ins, npc - pc)) && match ins with
    | .iconst n => decide (npc = pc + 1) && decide (cv = .int (Int32.ofInt n))
    | .bipush n => decide (npc = pc + 2) && decide (cv = .int (Int8.ofInt n).toInt32)
    | .sipush n => decide (npc = pc + 3) && decide (cv = .int (Int16.ofInt n).toInt32)
    | .ldc _ => decide (npc = pc + 2)
    | .ldc2_w _ => decide (npc = pc + 3)
    | .fconst n => decide (npc = pc + 1) && decide (cv = .float (if n = 0 then FP.fconst0 else if n = 1 then FP.fconst1 else FP.fconst2))
    | .iload _ => decide (npc = pc + 2)
    | .istore _ => decide (npc = pc + 2)
    | .iinc _ _ => decide (npc = pc + 3)
    | .goto o => decide (npc = pc + 3) && offOk pc o a
    | .if_icmp _ o => decide (npc = pc + 3) && offOk pc o a
    | .ifCond _ o => decide (npc = pc + 3) && offOk pc o a
    | .ifnull o => decide (npc = pc + 3) && offOk pc o a
    | .ifnonnull o => decide (npc = pc + 3) && offOk pc o a
    | .tableswitch df lo hi offs => offOk pc df a && tswOk pc lo hi offs sw
    | .lookupswitch df ps => offOk pc df a && lswOk pc ps.toList sw && (ps.toList.zip (ps.toList.drop 1)).all (fun (x, next) => x.1 < next.1)
    | .getfield _ => decide (npc = pc + 3) && decide (10 ≤ a ∧ a - 10 < 8 ∧ b < cF (a - 10)) && decide (cv = tcv (cY (a - 10) b))
    | .putfield _ => decide (npc = pc + 3) && decide (10 ≤ a ∧ a - 10 < 8 ∧ b < cF (a - 10)) && decide (cv = tcv (cY (a - 10) b))
    | .getstatic _ => decide (npc = pc + 3) && decide (1000 ≤ a ∧ a ≤ 1002)
    | .new _ => decide (npc = pc + 3) && decide (10 ≤ a ∧ a - 10 < 8 ∧ b = cF (a - 10))
    | .newarray t => decide (npc = pc + 2) && decide (t = .int ∨ t = .char)
    | .anewarray _ => decide (npc = pc + 3)
    | .invokevirtual _ => decide (npc = pc + 3) && decide (a < 900) && decide (10 ≤ d ∧ d - 10 < 8) && decide (mK a < mK m) && argN cv 1 b (mL a)
    | .invokestatic _ => decide (npc = pc + 3) && (if d = 0 then decide (a < 900) && decide (mK a < mK m) && argN cv 0 b (mL a) else decide (1 ≤ mK m) && decide (a = 900 + d ∧ d ≤ 3))
    | .invokespecial _ => decide (npc = pc + 3) && (if d = 0 then decide (1 ≤ mK m) && decide (a = 900) else decide (a < 900) && decide (10 ≤ d ∧ d - 10 < 8) && decide (mK a < mK m) && argN cv 1 b (mL a))
    | .ireturn => decide (npc = pc + 1) && decide ((cv = .int (nI 0) ∧ mR m = some .int) ∨ (cv = .int (nI 1) ∧ mR m = some .boolean) ∨ (cv = .int (nI 2) ∧ mR m = some .char))
    | .return_ => decide (npc = pc + 1) && decide (mR m = none)
    | _ => decide (npc = pc + 1)
def cOk (c : String) : Prop := c ≠ "java/lang/invoke/MethodHandle" ∧ c ≠ "java/lang/invoke/VarHandle"
/-- a method's own words -/
def GM (j : Nat) : Prop := Cond.code (mY j) (mB j) (mL j) (mR j) ∈ lw_tbl ∧ Cond.initialized (mY j).cls ∈ lw_tbl ∧ cOk (mY j).cls ∧ plainFor (mY j) = true ∧ (mL j ≤ 17 ∧ (mR j = none ∨ mR j = some .int ∨ mR j = some .boolean ∨ mR j = some .char))
def VM (j : Nat) (cv : Value) : Prop := Cond.instanceMethod (mY j) ∈ lw_tbl ∧ Cond.selects (mY j).cls (mY j) (mY j) ∈ lw_tbl ∧ nP j = some (nOf cv - 1)
def SM (j : Nat) (cv : Value) : Prop := Cond.static (mY j) ∈ lw_tbl ∧ nP j = some (nOf cv)
def IM (j : Nat) (cv : Value) : Prop := Cond.instanceMethod (mY j) ∈ lw_tbl ∧ (mY j).name = "<init>" ∧ mR j = none ∧ nP j = some (nOf cv - 1)
def FL (m i c k d : Nat) : Prop := match d with
  | 0 => Cond.fieldLink (mO m) i (cT c k).1 (cT c k).2.1 (cT c k).2.2.1 ∈ lw_tbl
  | _ => Cond.fieldLinkNest (mO m) i (cT c k).1 (cT c k).2.1 (cT c k).2.2.1 "AntTrails" ∈ lw_tbl
def FI (m c k d : Nat) : Prop := match (cT c k).2.2.2 with
  | true => (mY m).name = "<init>" ∧ (cT c k).1 = mO m ∧ d = 0
  | false => True
def LM (m i j : Nat) : Prop := Cond.methodLink (mO m) i (mY j) ∈ lw_tbl ∨ Cond.methodLinkNest (mO m) i (mY j) "AntTrails" ∈ lw_tbl
def stN (c : Nat) : String := match c with
  | 1000 => "AT_FIRST"
  | 1001 => "LEAST"
  | _ => "MOST"
def LkP (m : Nat) (e : En) : Prop := match e with
  | (_, ins, _, a, b, d, _, cv, _) => match ins with
    | .ldc i => (match cv with
      | .int v => Cond.constant (mO m) i v ∈ lw_tbl
      | .float v => Cond.constantFloat (mO m) i v ∈ lw_tbl
      | _ => False)
    | .ldc2_w i => (match cv with
      | .long v => Cond.constantLong (mO m) i v ∈ lw_tbl
      | _ => False)
    | .getfield i => FL m i (a - 10) b d
    | .putfield i => FL m i (a - 10) b d ∧ FI m (a - 10) b d
    | .getstatic i => (match d with
      | 0 => Cond.fieldLink (mO m) i "AntTrails" (stN a) "[I" ∈ lw_tbl
      | _ => Cond.fieldLinkNest (mO m) i "AntTrails" (stN a) "[I" "AntTrails" ∈ lw_tbl)
    | .new i => Cond.classLink (mO m) i (cN (a - 10)) ∈ lw_tbl
    | .anewarray i => Cond.classLink (mO m) i "AntTrails$Ground" ∈ lw_tbl
    | .invokevirtual i => (mY a).cls = cN (d - 10) ∧ Cond.methodLink (mO m) i (mY a) ∈ lw_tbl ∧ GM a ∧ VM a cv
    | .invokestatic i => (match d with
      | 0 => LM m i a ∧ GM a ∧ SM a cv
      | 1 => Cond.methodLink (mO m) i Lib.Math.max.name ∈ lw_tbl
      | 2 => Cond.methodLink (mO m) i Lib.Math.min.name ∈ lw_tbl
      | _ => Cond.methodLink (mO m) i ⟨"java/lang/Float", "floatToRawIntBits", "(F)I"⟩ ∈ lw_tbl)
    | .invokespecial i => (match d with
      | 0 => Cond.methodLink (mO m) i Lib.objectInit ∈ lw_tbl
      | _ => (mY a).cls = cN (d - 10) ∧ LM m i a ∧ GM a ∧ IM a cv)
    | _ => True
def allP (P : En → Prop) : List En → Prop
  | [] => True
  | e :: r => P e ∧ allP P r
theorem allP_app {P : En → Prop} : ∀ {l r : List En}, allP P l → allP P r → allP P (l ++ r)
  | [], _, _, h => h
  | _ :: _, _, h1, h2 => ⟨h1.1, allP_app h1.2 h2⟩
theorem allP_mem {P : En → Prop} : ∀ {l : List En}, allP P l → ∀ e ∈ l, P e
  | [], _, _, h => absurd h List.not_mem_nil
  | _ :: _, h1, _, h => (List.mem_cons.mp h).elim (fun q => q ▸ h1.1) (allP_mem h1.2 _)
theorem all_app {g : En → Bool} {l r : List En} (h1 : l.all g = true) (h2 : r.all g = true) : (l ++ r).all g = true := by rw [List.all_append, h1, h2]; rfl
theorem cok_0 : cOk "AntTrails" := ⟨by decide +kernel, by decide +kernel⟩
theorem pncok_0 : plainName "AntTrails" = true := by decide +kernel
theorem cok_1 : cOk "AntTrails$Colony" := ⟨by decide +kernel, by decide +kernel⟩
theorem pncok_1 : plainName "AntTrails$Colony" = true := by decide +kernel
theorem cok_2 : cOk "AntTrails$Ground" := ⟨by decide +kernel, by decide +kernel⟩
theorem pncok_2 : plainName "AntTrails$Ground" = true := by decide +kernel
theorem cok_3 : cOk "AntTrails$History" := ⟨by decide +kernel, by decide +kernel⟩
theorem pncok_3 : plainName "AntTrails$History" = true := by decide +kernel
theorem cok_4 : cOk "AntTrails$Orders" := ⟨by decide +kernel, by decide +kernel⟩
theorem pncok_4 : plainName "AntTrails$Orders" = true := by decide +kernel
theorem cok_5 : cOk "AntTrails$Survey" := ⟨by decide +kernel, by decide +kernel⟩
theorem pncok_5 : plainName "AntTrails$Survey" = true := by decide +kernel
theorem cok_6 : cOk "AntTrails$Way" := ⟨by decide +kernel, by decide +kernel⟩
theorem pncok_6 : plainName "AntTrails$Way" = true := by decide +kernel
theorem cok_7 : cOk "AntTrailsLaw" := ⟨by decide +kernel, by decide +kernel⟩
theorem pncok_7 : plainName "AntTrailsLaw" = true := by decide +kernel
theorem cok_8 : cOk "AntTrailsModel" := ⟨by decide +kernel, by decide +kernel⟩
theorem pncok_8 : plainName "AntTrailsModel" = true := by decide +kernel
theorem cok_9 : cOk "java/lang/Float" := ⟨by decide +kernel, by decide +kernel⟩
theorem gm_1 : GM 1 := ⟨wd_66, wd_52, cok_0, plainFor_of_name pncok_0, by decide +kernel⟩
theorem km_1 : IM 1 (.retAddr 1) := ⟨wd_65, rfl, rfl, by decide +kernel⟩
theorem gm_2 : GM 2 := ⟨wd_298, wd_52, cok_0, plainFor_of_name pncok_0, by decide +kernel⟩
theorem km_2 : VM 2 (.retAddr 1) := ⟨wd_296, wd_297, by decide +kernel⟩
theorem gm_3 : GM 3 := ⟨wd_330, wd_52, cok_0, plainFor_of_name pncok_0, by decide +kernel⟩
theorem km_3 : VM 3 (.retAddr 4) := ⟨wd_328, wd_329, by decide +kernel⟩
theorem gm_4 : GM 4 := ⟨wd_350, wd_52, cok_0, plainFor_of_name pncok_0, by decide +kernel⟩
theorem km_4 : VM 4 (.retAddr 3) := ⟨wd_348, wd_349, by decide +kernel⟩
theorem gm_5 : GM 5 := ⟨wd_371, wd_52, cok_0, plainFor_of_name pncok_0, by decide +kernel⟩
theorem km_5 : VM 5 (.retAddr 2) := ⟨wd_369, wd_370, by decide +kernel⟩
theorem gm_6 : GM 6 := ⟨wd_383, wd_52, cok_0, plainFor_of_name pncok_0, by decide +kernel⟩
theorem km_6 : VM 6 (.retAddr 2) := ⟨wd_381, wd_382, by decide +kernel⟩
theorem gm_7 : GM 7 := ⟨wd_494, wd_52, cok_0, plainFor_of_name pncok_0, by decide +kernel⟩
theorem km_7 : VM 7 (.retAddr 1) := ⟨wd_492, wd_493, by decide +kernel⟩
theorem gm_8 : GM 8 := ⟨wd_506, wd_52, cok_0, plainFor_of_name pncok_0, by decide +kernel⟩
theorem km_8 : VM 8 (.retAddr 3) := ⟨wd_504, wd_505, by decide +kernel⟩
theorem gm_9 : GM 9 := ⟨wd_518, wd_52, cok_0, plainFor_of_name pncok_0, by decide +kernel⟩
theorem km_9 : VM 9 (.retAddr 3) := ⟨wd_516, wd_517, by decide +kernel⟩
theorem gm_10 : GM 10 := ⟨wd_526, wd_52, cok_0, plainFor_of_name pncok_0, by decide +kernel⟩
theorem km_10 : VM 10 (.retAddr 3) := ⟨wd_524, wd_525, by decide +kernel⟩
theorem gm_11 : GM 11 := ⟨wd_553, wd_52, cok_0, plainFor_of_name pncok_0, by decide +kernel⟩
theorem km_11 : VM 11 (.retAddr 2) := ⟨wd_551, wd_552, by decide +kernel⟩
theorem gm_12 : GM 12 := ⟨wd_559, wd_52, cok_0, plainFor_of_name pncok_0, by decide +kernel⟩
theorem km_12 : VM 12 (.retAddr 2) := ⟨wd_557, wd_558, by decide +kernel⟩
theorem gm_13 : GM 13 := ⟨wd_564, wd_52, cok_0, plainFor_of_name pncok_0, by decide +kernel⟩
theorem km_13 : VM 13 (.retAddr 3) := ⟨wd_562, wd_563, by decide +kernel⟩
theorem gm_14 : GM 14 := ⟨wd_578, wd_52, cok_0, plainFor_of_name pncok_0, by decide +kernel⟩
theorem km_14 : VM 14 (.retAddr 2) := ⟨wd_576, wd_577, by decide +kernel⟩
theorem gm_15 : GM 15 := ⟨wd_602, wd_52, cok_0, plainFor_of_name pncok_0, by decide +kernel⟩
theorem km_15 : VM 15 (.retAddr 1) := ⟨wd_600, wd_601, by decide +kernel⟩
theorem gm_16 : GM 16 := ⟨wd_606, wd_52, cok_0, plainFor_of_name pncok_0, by decide +kernel⟩
theorem km_16 : VM 16 (.retAddr 2) := ⟨wd_604, wd_605, by decide +kernel⟩
theorem gm_17 : GM 17 := ⟨wd_612, wd_52, cok_0, plainFor_of_name pncok_0, by decide +kernel⟩
theorem km_17 : VM 17 (.retAddr 3) := ⟨wd_610, wd_611, by decide +kernel⟩
theorem gm_18 : GM 18 := ⟨wd_618, wd_52, cok_0, plainFor_of_name pncok_0, by decide +kernel⟩
theorem km_18 : VM 18 (.retAddr 2) := ⟨wd_616, wd_617, by decide +kernel⟩
theorem gm_19 : GM 19 := ⟨wd_628, wd_52, cok_0, plainFor_of_name pncok_0, by decide +kernel⟩
theorem km_19 : VM 19 (.retAddr 1) := ⟨wd_626, wd_627, by decide +kernel⟩
theorem gm_20 : GM 20 := ⟨wd_637, wd_52, cok_0, plainFor_of_name pncok_0, by decide +kernel⟩
theorem km_20 : VM 20 (.retAddr 2) := ⟨wd_635, wd_636, by decide +kernel⟩
theorem gm_21 : GM 21 := ⟨wd_648, wd_52, cok_0, plainFor_of_name pncok_0, by decide +kernel⟩
theorem km_21 : VM 21 (.retAddr 1) := ⟨wd_646, wd_647, by decide +kernel⟩
theorem gm_22 : GM 22 := ⟨wd_656, wd_52, cok_0, plainFor_of_name pncok_0, by decide +kernel⟩
theorem km_22 : VM 22 (.retAddr 2) := ⟨wd_654, wd_655, by decide +kernel⟩
theorem gm_23 : GM 23 := ⟨wd_697, wd_52, cok_0, plainFor_of_name pncok_0, by decide +kernel⟩
theorem km_23 : VM 23 (.retAddr 1) := ⟨wd_695, wd_696, by decide +kernel⟩
theorem gm_24 : GM 24 := ⟨wd_341, wd_52, cok_0, plainFor_of_name pncok_0, by decide +kernel⟩
theorem km_24 : SM 24 (.retAddr 3) := ⟨wd_340, by decide +kernel⟩
theorem gm_25 : GM 25 := ⟨wd_321, wd_52, cok_0, plainFor_of_name pncok_0, by decide +kernel⟩
theorem km_25 : SM 25 (.retAddr 1) := ⟨wd_320, by decide +kernel⟩
theorem gm_26 : GM 26 := ⟨wd_427, wd_52, cok_0, plainFor_of_name pncok_0, by decide +kernel⟩
theorem km_26 : SM 26 (.retAddr 2) := ⟨wd_426, by decide +kernel⟩
theorem gm_27 : GM 27 := ⟨wd_109, wd_52, cok_0, plainFor_of_name pncok_0, by decide +kernel⟩
theorem km_27 : SM 27 (.retAddr 2) := ⟨wd_108, by decide +kernel⟩
theorem gm_28 : GM 28 := ⟨wd_573, wd_52, cok_0, plainFor_of_name pncok_0, by decide +kernel⟩
theorem km_28 : SM 28 (.retAddr 1) := ⟨wd_572, by decide +kernel⟩
theorem gm_29 : GM 29 := ⟨wd_209, wd_56, cok_1, plainFor_of_name pncok_1, by decide +kernel⟩
theorem km_29 : IM 29 (.retAddr 1) := ⟨wd_208, rfl, rfl, by decide +kernel⟩
theorem gm_30 : GM 30 := ⟨wd_387, wd_56, cok_1, plainFor_of_name pncok_1, by decide +kernel⟩
theorem km_30 : VM 30 (.retAddr 3) := ⟨wd_385, wd_386, by decide +kernel⟩
theorem gm_31 : GM 31 := ⟨wd_399, wd_56, cok_1, plainFor_of_name pncok_1, by decide +kernel⟩
theorem km_31 : VM 31 (.retAddr 1) := ⟨wd_398, wd_1, by decide +kernel⟩
theorem gm_32 : GM 32 := ⟨wd_470, wd_56, cok_1, plainFor_of_name pncok_1, by decide +kernel⟩
theorem km_32 : VM 32 (.retAddr 2) := ⟨wd_469, wd_4, by decide +kernel⟩
theorem gm_33 : GM 33 := ⟨wd_403, wd_56, cok_1, plainFor_of_name pncok_1, by decide +kernel⟩
theorem km_33 : VM 33 (.retAddr 2) := ⟨wd_401, wd_402, by decide +kernel⟩
theorem gm_34 : GM 34 := ⟨wd_416, wd_56, cok_1, plainFor_of_name pncok_1, by decide +kernel⟩
theorem km_34 : VM 34 (.retAddr 2) := ⟨wd_415, wd_2, by decide +kernel⟩
theorem gm_35 : GM 35 := ⟨wd_441, wd_56, cok_1, plainFor_of_name pncok_1, by decide +kernel⟩
theorem km_35 : VM 35 (.retAddr 3) := ⟨wd_440, wd_3, by decide +kernel⟩
theorem gm_36 : GM 36 := ⟨wd_74, wd_53, cok_2, plainFor_of_name pncok_2, by decide +kernel⟩
theorem km_36 : IM 36 (.retAddr 1) := ⟨wd_73, rfl, rfl, by decide +kernel⟩
theorem gm_37 : GM 37 := ⟨wd_305, wd_53, cok_2, plainFor_of_name pncok_2, by decide +kernel⟩
theorem km_37 : SM 37 (.retAddr 2) := ⟨wd_304, by decide +kernel⟩
theorem gm_38 : GM 38 := ⟨wd_338, wd_53, cok_2, plainFor_of_name pncok_2, by decide +kernel⟩
theorem km_38 : VM 38 (.retAddr 2) := ⟨wd_336, wd_337, by decide +kernel⟩
theorem gm_39 : GM 39 := ⟨wd_358, wd_53, cok_2, plainFor_of_name pncok_2, by decide +kernel⟩
theorem km_39 : VM 39 (.retAddr 2) := ⟨wd_356, wd_357, by decide +kernel⟩
theorem gm_40 : GM 40 := ⟨wd_393, wd_53, cok_2, plainFor_of_name pncok_2, by decide +kernel⟩
theorem km_40 : VM 40 (.retAddr 1) := ⟨wd_391, wd_392, by decide +kernel⟩
theorem gm_41 : GM 41 := ⟨wd_479, wd_53, cok_2, plainFor_of_name pncok_2, by decide +kernel⟩
theorem km_41 : VM 41 (.retAddr 1) := ⟨wd_477, wd_478, by decide +kernel⟩
theorem gm_42 : GM 42 := ⟨wd_362, wd_53, cok_2, plainFor_of_name pncok_2, by decide +kernel⟩
theorem km_42 : VM 42 (.retAddr 2) := ⟨wd_360, wd_361, by decide +kernel⟩
theorem gm_43 : GM 43 := ⟨wd_346, wd_53, cok_2, plainFor_of_name pncok_2, by decide +kernel⟩
theorem km_43 : VM 43 (.retAddr 2) := ⟨wd_344, wd_345, by decide +kernel⟩
theorem gm_44 : GM 44 := ⟨wd_445, wd_53, cok_2, plainFor_of_name pncok_2, by decide +kernel⟩
theorem km_44 : VM 44 (.retAddr 2) := ⟨wd_443, wd_444, by decide +kernel⟩
theorem gm_45 : GM 45 := ⟨wd_431, wd_53, cok_2, plainFor_of_name pncok_2, by decide +kernel⟩
theorem km_45 : VM 45 (.retAddr 2) := ⟨wd_429, wd_430, by decide +kernel⟩
theorem gm_46 : GM 46 := ⟨wd_420, wd_53, cok_2, plainFor_of_name pncok_2, by decide +kernel⟩
theorem km_46 : VM 46 (.retAddr 3) := ⟨wd_418, wd_419, by decide +kernel⟩
theorem gm_47 : GM 47 := ⟨wd_367, wd_53, cok_2, plainFor_of_name pncok_2, by decide +kernel⟩
theorem km_47 : VM 47 (.retAddr 1) := ⟨wd_365, wd_366, by decide +kernel⟩
theorem gm_48 : GM 48 := ⟨wd_531, wd_53, cok_2, plainFor_of_name pncok_2, by decide +kernel⟩
theorem km_48 : VM 48 (.retAddr 2) := ⟨wd_529, wd_530, by decide +kernel⟩
theorem gm_49 : GM 49 := ⟨wd_568, wd_53, cok_2, plainFor_of_name pncok_2, by decide +kernel⟩
theorem km_49 : VM 49 (.retAddr 2) := ⟨wd_566, wd_567, by decide +kernel⟩
theorem gm_50 : GM 50 := ⟨wd_502, wd_53, cok_2, plainFor_of_name pncok_2, by decide +kernel⟩
theorem km_50 : VM 50 (.retAddr 1) := ⟨wd_500, wd_501, by decide +kernel⟩
theorem gm_51 : GM 51 := ⟨wd_624, wd_53, cok_2, plainFor_of_name pncok_2, by decide +kernel⟩
theorem km_51 : VM 51 (.retAddr 1) := ⟨wd_622, wd_623, by decide +kernel⟩
theorem gm_52 : GM 52 := ⟨wd_313, wd_53, cok_2, plainFor_of_name pncok_2, by decide +kernel⟩
theorem km_52 : VM 52 (.retAddr 1) := ⟨wd_311, wd_312, by decide +kernel⟩
theorem gm_53 : GM 53 := ⟨wd_334, wd_53, cok_2, plainFor_of_name pncok_2, by decide +kernel⟩
theorem km_53 : VM 53 (.retAddr 4) := ⟨wd_332, wd_333, by decide +kernel⟩
theorem gm_54 : GM 54 := ⟨wd_354, wd_53, cok_2, plainFor_of_name pncok_2, by decide +kernel⟩
theorem km_54 : VM 54 (.retAddr 3) := ⟨wd_352, wd_353, by decide +kernel⟩
theorem gm_55 : GM 55 := ⟨wd_375, wd_53, cok_2, plainFor_of_name pncok_2, by decide +kernel⟩
theorem km_55 : VM 55 (.retAddr 2) := ⟨wd_373, wd_374, by decide +kernel⟩
theorem gm_56 : GM 56 := ⟨wd_498, wd_53, cok_2, plainFor_of_name pncok_2, by decide +kernel⟩
theorem km_56 : VM 56 (.retAddr 1) := ⟨wd_496, wd_497, by decide +kernel⟩
theorem gm_57 : GM 57 := ⟨wd_510, wd_53, cok_2, plainFor_of_name pncok_2, by decide +kernel⟩
theorem km_57 : VM 57 (.retAddr 3) := ⟨wd_508, wd_509, by decide +kernel⟩
theorem gm_58 : GM 58 := ⟨wd_435, wd_53, cok_2, plainFor_of_name pncok_2, by decide +kernel⟩
theorem km_58 : VM 58 (.retAddr 2) := ⟨wd_433, wd_434, by decide +kernel⟩
theorem gm_59 : GM 59 := ⟨wd_453, wd_53, cok_2, plainFor_of_name pncok_2, by decide +kernel⟩
theorem km_59 : VM 59 (.retAddr 3) := ⟨wd_451, wd_452, by decide +kernel⟩
theorem gm_60 : GM 60 := ⟨wd_475, wd_53, cok_2, plainFor_of_name pncok_2, by decide +kernel⟩
theorem km_60 : VM 60 (.retAddr 2) := ⟨wd_473, wd_474, by decide +kernel⟩
theorem gm_61 : GM 61 := ⟨wd_466, wd_53, cok_2, plainFor_of_name pncok_2, by decide +kernel⟩
theorem km_61 : VM 61 (.retAddr 2) := ⟨wd_464, wd_465, by decide +kernel⟩
theorem gm_62 : GM 62 := ⟨wd_483, wd_53, cok_2, plainFor_of_name pncok_2, by decide +kernel⟩
theorem km_62 : VM 62 (.retAddr 2) := ⟨wd_481, wd_482, by decide +kernel⟩
theorem gm_63 : GM 63 := ⟨wd_192, wd_55, cok_3, plainFor_of_name pncok_3, by decide +kernel⟩
theorem km_63 : IM 63 (.retAddr 1) := ⟨wd_191, rfl, rfl, by decide +kernel⟩
theorem gm_64 : GM 64 := ⟨wd_302, wd_55, cok_3, plainFor_of_name pncok_3, by decide +kernel⟩
theorem km_64 : VM 64 (.retAddr 2) := ⟨wd_300, wd_301, by decide +kernel⟩
theorem gm_65 : GM 65 := ⟨wd_318, wd_55, cok_3, plainFor_of_name pncok_3, by decide +kernel⟩
theorem km_65 : VM 65 (.retAddr 2) := ⟨wd_316, wd_317, by decide +kernel⟩
theorem gm_66 : GM 66 := ⟨wd_326, wd_55, cok_3, plainFor_of_name pncok_3, by decide +kernel⟩
theorem km_66 : VM 66 (.retAddr 1) := ⟨wd_325, wd_0, by decide +kernel⟩
theorem gm_67 : GM 67 := ⟨wd_632, wd_55, cok_3, plainFor_of_name pncok_3, by decide +kernel⟩
theorem km_67 : VM 67 (.retAddr 2) := ⟨wd_630, wd_631, by decide +kernel⟩
theorem gm_68 : GM 68 := ⟨wd_244, wd_58, cok_4, plainFor_of_name pncok_4, by decide +kernel⟩
theorem km_68 : IM 68 (.retAddr 1) := ⟨wd_243, rfl, rfl, by decide +kernel⟩
theorem gm_69 : GM 69 := ⟨wd_641, wd_58, cok_4, plainFor_of_name pncok_4, by decide +kernel⟩
theorem km_69 : VM 69 (.retAddr 2) := ⟨wd_639, wd_640, by decide +kernel⟩
theorem gm_70 : GM 70 := ⟨wd_652, wd_58, cok_4, plainFor_of_name pncok_4, by decide +kernel⟩
theorem km_70 : VM 70 (.retAddr 1) := ⟨wd_650, wd_651, by decide +kernel⟩
theorem gm_71 : GM 71 := ⟨wd_660, wd_58, cok_4, plainFor_of_name pncok_4, by decide +kernel⟩
theorem km_71 : VM 71 (.retAddr 3) := ⟨wd_658, wd_659, by decide +kernel⟩
theorem gm_72 : GM 72 := ⟨wd_683, wd_58, cok_4, plainFor_of_name pncok_4, by decide +kernel⟩
theorem km_72 : VM 72 (.retAddr 4) := ⟨wd_682, wd_11, by decide +kernel⟩
theorem gm_73 : GM 73 := ⟨wd_687, wd_58, cok_4, plainFor_of_name pncok_4, by decide +kernel⟩
theorem km_73 : VM 73 (.retAddr 3) := ⟨wd_686, wd_12, by decide +kernel⟩
theorem gm_74 : GM 74 := ⟨wd_664, wd_58, cok_4, plainFor_of_name pncok_4, by decide +kernel⟩
theorem km_74 : VM 74 (.retAddr 2) := ⟨wd_663, wd_7, by decide +kernel⟩
theorem gm_75 : GM 75 := ⟨wd_671, wd_58, cok_4, plainFor_of_name pncok_4, by decide +kernel⟩
theorem km_75 : SM 75 (.retAddr 1) := ⟨wd_670, by decide +kernel⟩
theorem gm_76 : GM 76 := ⟨wd_668, wd_58, cok_4, plainFor_of_name pncok_4, by decide +kernel⟩
theorem km_76 : VM 76 (.retAddr 1) := ⟨wd_667, wd_8, by decide +kernel⟩
theorem gm_77 : GM 77 := ⟨wd_675, wd_58, cok_4, plainFor_of_name pncok_4, by decide +kernel⟩
theorem km_77 : VM 77 (.retAddr 2) := ⟨wd_674, wd_9, by decide +kernel⟩
theorem gm_78 : GM 78 := ⟨wd_679, wd_58, cok_4, plainFor_of_name pncok_4, by decide +kernel⟩
theorem km_78 : VM 78 (.retAddr 2) := ⟨wd_678, wd_10, by decide +kernel⟩
theorem gm_79 : GM 79 := ⟨wd_228, wd_57, cok_5, plainFor_of_name pncok_5, by decide +kernel⟩
theorem km_79 : IM 79 (.retAddr 1) := ⟨wd_227, rfl, rfl, by decide +kernel⟩
theorem gm_80 : GM 80 := ⟨wd_536, wd_57, cok_5, plainFor_of_name pncok_5, by decide +kernel⟩
theorem km_80 : VM 80 (.retAddr 3) := ⟨wd_534, wd_535, by decide +kernel⟩
theorem gm_81 : GM 81 := ⟨wd_543, wd_57, cok_5, plainFor_of_name pncok_5, by decide +kernel⟩
theorem km_81 : VM 81 (.retAddr 3) := ⟨wd_542, wd_5, by decide +kernel⟩
theorem gm_82 : GM 82 := ⟨wd_584, wd_57, cok_5, plainFor_of_name pncok_5, by decide +kernel⟩
theorem km_82 : VM 82 (.retAddr 2) := ⟨wd_582, wd_583, by decide +kernel⟩
theorem gm_83 : GM 83 := ⟨wd_590, wd_57, cok_5, plainFor_of_name pncok_5, by decide +kernel⟩
theorem km_83 : VM 83 (.retAddr 2) := ⟨wd_589, wd_6, by decide +kernel⟩
theorem gm_84 : GM 84 := ⟨wd_595, wd_57, cok_5, plainFor_of_name pncok_5, by decide +kernel⟩
theorem km_84 : SM 84 (.retAddr 3) := ⟨wd_594, by decide +kernel⟩
theorem gm_85 : GM 85 := ⟨wd_80, wd_54, cok_6, plainFor_of_name pncok_6, by decide +kernel⟩
theorem km_85 : IM 85 (.retAddr 1) := ⟨wd_79, rfl, rfl, by decide +kernel⟩
theorem gm_86 : GM 86 := ⟨wd_379, wd_54, cok_6, plainFor_of_name pncok_6, by decide +kernel⟩
theorem km_86 : VM 86 (.retAddr 1) := ⟨wd_377, wd_378, by decide +kernel⟩
theorem gm_87 : GM 87 := ⟨wd_449, wd_54, cok_6, plainFor_of_name pncok_6, by decide +kernel⟩
theorem km_87 : VM 87 (.retAddr 4) := ⟨wd_447, wd_448, by decide +kernel⟩
theorem gm_88 : GM 88 := ⟨wd_412, wd_54, cok_6, plainFor_of_name pncok_6, by decide +kernel⟩
theorem km_88 : VM 88 (.retAddr 2) := ⟨wd_410, wd_411, by decide +kernel⟩
theorem gm_89 : GM 89 := ⟨wd_408, wd_54, cok_6, plainFor_of_name pncok_6, by decide +kernel⟩
theorem km_89 : VM 89 (.retAddr 1) := ⟨wd_406, wd_407, by decide +kernel⟩
theorem gm_90 : GM 90 := ⟨wd_457, wd_54, cok_6, plainFor_of_name pncok_6, by decide +kernel⟩
theorem km_90 : VM 90 (.retAddr 2) := ⟨wd_455, wd_456, by decide +kernel⟩
theorem gm_91 : GM 91 := ⟨wd_461, wd_54, cok_6, plainFor_of_name pncok_6, by decide +kernel⟩
theorem km_91 : VM 91 (.retAddr 2) := ⟨wd_459, wd_460, by decide +kernel⟩
theorem gm_92 : GM 92 := ⟨wd_424, wd_54, cok_6, plainFor_of_name pncok_6, by decide +kernel⟩
theorem km_92 : VM 92 (.retAddr 2) := ⟨wd_422, wd_423, by decide +kernel⟩
theorem gm_93 : GM 93 := ⟨wd_308, wd_54, cok_6, plainFor_of_name pncok_6, by decide +kernel⟩
theorem km_93 : SM 93 (.retAddr 2) := ⟨wd_307, by decide +kernel⟩
theorem gm_94 : GM 94 := ⟨wd_702, wd_59, cok_8, plainFor_of_name pncok_8, by decide +kernel⟩
theorem km_94 : IM 94 (.retAddr 1) := ⟨wd_701, rfl, rfl, by decide +kernel⟩
theorem gm_95 : GM 95 := ⟨wd_797, wd_59, cok_8, plainFor_of_name pncok_8, by decide +kernel⟩
theorem km_95 : SM 95 (.retAddr 3) := ⟨wd_796, by decide +kernel⟩
theorem gm_96 : GM 96 := ⟨wd_792, wd_59, cok_8, plainFor_of_name pncok_8, by decide +kernel⟩
theorem km_96 : SM 96 (.retAddr 1) := ⟨wd_791, by decide +kernel⟩
theorem gm_97 : GM 97 := ⟨wd_785, wd_59, cok_8, plainFor_of_name pncok_8, by decide +kernel⟩
theorem km_97 : SM 97 (.retAddr 2) := ⟨wd_784, by decide +kernel⟩
theorem gm_98 : GM 98 := ⟨wd_782, wd_59, cok_8, plainFor_of_name pncok_8, by decide +kernel⟩
theorem km_98 : VM 98 (.retAddr 1) := ⟨wd_781, wd_13, by decide +kernel⟩
theorem gm_99 : GM 99 := ⟨wd_789, wd_59, cok_8, plainFor_of_name pncok_8, by decide +kernel⟩
theorem km_99 : VM 99 (.retAddr 2) := ⟨wd_788, wd_14, by decide +kernel⟩
theorem gm_100 : GM 100 := ⟨wd_809, wd_59, cok_8, plainFor_of_name pncok_8, by decide +kernel⟩
theorem km_100 : VM 100 (.retAddr 2) := ⟨wd_808, wd_16, by decide +kernel⟩
theorem gm_101 : GM 101 := ⟨wd_825, wd_59, cok_8, plainFor_of_name pncok_8, by decide +kernel⟩
theorem km_101 : VM 101 (.retAddr 2) := ⟨wd_824, wd_19, by decide +kernel⟩
theorem gm_102 : GM 102 := ⟨wd_829, wd_59, cok_8, plainFor_of_name pncok_8, by decide +kernel⟩
theorem km_102 : VM 102 (.retAddr 3) := ⟨wd_828, wd_20, by decide +kernel⟩
theorem gm_103 : GM 103 := ⟨wd_813, wd_59, cok_8, plainFor_of_name pncok_8, by decide +kernel⟩
theorem km_103 : VM 103 (.retAddr 4) := ⟨wd_812, wd_17, by decide +kernel⟩
theorem gm_104 : GM 104 := ⟨wd_838, wd_59, cok_8, plainFor_of_name pncok_8, by decide +kernel⟩
theorem km_104 : VM 104 (.retAddr 2) := ⟨wd_837, wd_22, by decide +kernel⟩
theorem gm_105 : GM 105 := ⟨wd_882, wd_59, cok_8, plainFor_of_name pncok_8, by decide +kernel⟩
theorem km_105 : VM 105 (.retAddr 3) := ⟨wd_881, wd_31, by decide +kernel⟩
theorem gm_106 : GM 106 := ⟨wd_886, wd_59, cok_8, plainFor_of_name pncok_8, by decide +kernel⟩
theorem km_106 : VM 106 (.retAddr 2) := ⟨wd_885, wd_32, by decide +kernel⟩
theorem gm_107 : GM 107 := ⟨wd_834, wd_59, cok_8, plainFor_of_name pncok_8, by decide +kernel⟩
theorem km_107 : VM 107 (.retAddr 1) := ⟨wd_833, wd_21, by decide +kernel⟩
theorem gm_108 : GM 108 := ⟨wd_935, wd_59, cok_8, plainFor_of_name pncok_8, by decide +kernel⟩
theorem km_108 : VM 108 (.retAddr 2) := ⟨wd_934, wd_39, by decide +kernel⟩
theorem gm_109 : GM 109 := ⟨wd_908, wd_59, cok_8, plainFor_of_name pncok_8, by decide +kernel⟩
theorem km_109 : VM 109 (.retAddr 1) := ⟨wd_907, wd_36, by decide +kernel⟩
theorem gm_110 : GM 110 := ⟨wd_939, wd_59, cok_8, plainFor_of_name pncok_8, by decide +kernel⟩
theorem km_110 : VM 110 (.retAddr 2) := ⟨wd_938, wd_40, by decide +kernel⟩
theorem gm_111 : GM 111 := ⟨wd_870, wd_59, cok_8, plainFor_of_name pncok_8, by decide +kernel⟩
theorem km_111 : VM 111 (.retAddr 1) := ⟨wd_869, wd_28, by decide +kernel⟩
theorem gm_112 : GM 112 := ⟨wd_878, wd_59, cok_8, plainFor_of_name pncok_8, by decide +kernel⟩
theorem km_112 : VM 112 (.retAddr 2) := ⟨wd_877, wd_30, by decide +kernel⟩
theorem gm_113 : GM 113 := ⟨wd_892, wd_59, cok_8, plainFor_of_name pncok_8, by decide +kernel⟩
theorem km_113 : VM 113 (.retAddr 2) := ⟨wd_891, wd_33, by decide +kernel⟩
theorem gm_114 : GM 114 := ⟨wd_874, wd_59, cok_8, plainFor_of_name pncok_8, by decide +kernel⟩
theorem km_114 : VM 114 (.retAddr 1) := ⟨wd_873, wd_29, by decide +kernel⟩
theorem gm_115 : GM 115 := ⟨wd_866, wd_59, cok_8, plainFor_of_name pncok_8, by decide +kernel⟩
theorem km_115 : VM 115 (.retAddr 1) := ⟨wd_865, wd_27, by decide +kernel⟩
theorem gm_116 : GM 116 := ⟨wd_900, wd_59, cok_8, plainFor_of_name pncok_8, by decide +kernel⟩
theorem km_116 : VM 116 (.retAddr 3) := ⟨wd_899, wd_35, by decide +kernel⟩
theorem gm_117 : GM 117 := ⟨wd_896, wd_59, cok_8, plainFor_of_name pncok_8, by decide +kernel⟩
theorem km_117 : VM 117 (.retAddr 1) := ⟨wd_895, wd_34, by decide +kernel⟩
theorem gm_118 : GM 118 := ⟨wd_862, wd_59, cok_8, plainFor_of_name pncok_8, by decide +kernel⟩
theorem km_118 : VM 118 (.retAddr 1) := ⟨wd_861, wd_26, by decide +kernel⟩
theorem gm_119 : GM 119 := ⟨wd_858, wd_59, cok_8, plainFor_of_name pncok_8, by decide +kernel⟩
theorem km_119 : VM 119 (.retAddr 2) := ⟨wd_857, wd_25, by decide +kernel⟩
theorem gm_120 : GM 120 := ⟨wd_805, wd_59, cok_8, plainFor_of_name pncok_8, by decide +kernel⟩
theorem km_120 : VM 120 (.retAddr 4) := ⟨wd_804, wd_15, by decide +kernel⟩
theorem gm_121 : GM 121 := ⟨wd_821, wd_59, cok_8, plainFor_of_name pncok_8, by decide +kernel⟩
theorem km_121 : VM 121 (.retAddr 3) := ⟨wd_820, wd_18, by decide +kernel⟩
theorem gm_122 : GM 122 := ⟨wd_846, wd_59, cok_8, plainFor_of_name pncok_8, by decide +kernel⟩
theorem km_122 : VM 122 (.retAddr 2) := ⟨wd_845, wd_23, by decide +kernel⟩
theorem gm_123 : GM 123 := ⟨wd_854, wd_59, cok_8, plainFor_of_name pncok_8, by decide +kernel⟩
theorem km_123 : VM 123 (.retAddr 2) := ⟨wd_853, wd_24, by decide +kernel⟩
theorem gm_124 : GM 124 := ⟨wd_919, wd_59, cok_8, plainFor_of_name pncok_8, by decide +kernel⟩
theorem km_124 : SM 124 (.retAddr 2) := ⟨wd_918, by decide +kernel⟩
theorem gm_125 : GM 125 := ⟨wd_916, wd_59, cok_8, plainFor_of_name pncok_8, by decide +kernel⟩
theorem km_125 : VM 125 (.retAddr 3) := ⟨wd_915, wd_37, by decide +kernel⟩
theorem gm_126 : GM 126 := ⟨wd_777, wd_59, cok_8, plainFor_of_name pncok_8, by decide +kernel⟩
theorem km_126 : VM 126 (.retAddr 1) := ⟨wd_775, wd_776, by decide +kernel⟩
theorem gm_127 : GM 127 := ⟨wd_801, wd_59, cok_8, plainFor_of_name pncok_8, by decide +kernel⟩
theorem km_127 : VM 127 (.retAddr 4) := ⟨wd_799, wd_800, by decide +kernel⟩
theorem gm_128 : GM 128 := ⟨wd_817, wd_59, cok_8, plainFor_of_name pncok_8, by decide +kernel⟩
theorem km_128 : VM 128 (.retAddr 3) := ⟨wd_815, wd_816, by decide +kernel⟩
theorem gm_129 : GM 129 := ⟨wd_842, wd_59, cok_8, plainFor_of_name pncok_8, by decide +kernel⟩
theorem km_129 : VM 129 (.retAddr 2) := ⟨wd_840, wd_841, by decide +kernel⟩
theorem gm_130 : GM 130 := ⟨wd_850, wd_59, cok_8, plainFor_of_name pncok_8, by decide +kernel⟩
theorem km_130 : VM 130 (.retAddr 2) := ⟨wd_848, wd_849, by decide +kernel⟩
theorem gm_131 : GM 131 := ⟨wd_904, wd_59, cok_8, plainFor_of_name pncok_8, by decide +kernel⟩
theorem km_131 : VM 131 (.retAddr 1) := ⟨wd_902, wd_903, by decide +kernel⟩
theorem gm_132 : GM 132 := ⟨wd_912, wd_59, cok_8, plainFor_of_name pncok_8, by decide +kernel⟩
theorem km_132 : VM 132 (.retAddr 3) := ⟨wd_910, wd_911, by decide +kernel⟩
theorem gm_133 : GM 133 := ⟨wd_927, wd_59, cok_8, plainFor_of_name pncok_8, by decide +kernel⟩
theorem km_133 : VM 133 (.retAddr 2) := ⟨wd_926, wd_38, by decide +kernel⟩
theorem gm_134 : GM 134 := ⟨wd_923, wd_59, cok_8, plainFor_of_name pncok_8, by decide +kernel⟩
theorem km_134 : VM 134 (.retAddr 3) := ⟨wd_921, wd_922, by decide +kernel⟩
theorem gm_135 : GM 135 := ⟨wd_943, wd_59, cok_8, plainFor_of_name pncok_8, by decide +kernel⟩
theorem km_135 : VM 135 (.retAddr 2) := ⟨wd_942, wd_41, by decide +kernel⟩
theorem gm_136 : GM 136 := ⟨wd_931, wd_59, cok_8, plainFor_of_name pncok_8, by decide +kernel⟩
theorem km_136 : VM 136 (.retAddr 3) := ⟨wd_929, wd_930, by decide +kernel⟩
theorem gm_137 : GM 137 := ⟨wd_947, wd_59, cok_8, plainFor_of_name pncok_8, by decide +kernel⟩
theorem km_137 : VM 137 (.retAddr 2) := ⟨wd_945, wd_946, by decide +kernel⟩
theorem gm_138 : GM 138 := ⟨wd_951, wd_59, cok_8, plainFor_of_name pncok_8, by decide +kernel⟩
theorem km_138 : VM 138 (.retAddr 2) := ⟨wd_949, wd_950, by decide +kernel⟩
theorem gm_139 : GM 139 := ⟨wd_955, wd_59, cok_8, plainFor_of_name pncok_8, by decide +kernel⟩
theorem km_139 : VM 139 (.retAddr 3) := ⟨wd_953, wd_954, by decide +kernel⟩
theorem gm_140 : GM 140 := ⟨wd_977, wd_59, cok_8, plainFor_of_name pncok_8, by decide +kernel⟩
theorem km_140 : VM 140 (.retAddr 3) := ⟨wd_976, wd_43, by decide +kernel⟩
theorem gm_141 : GM 141 := ⟨wd_973, wd_59, cok_8, plainFor_of_name pncok_8, by decide +kernel⟩
theorem km_141 : VM 141 (.retAddr 1) := ⟨wd_972, wd_42, by decide +kernel⟩
theorem gm_142 : GM 142 := ⟨wd_969, wd_59, cok_8, plainFor_of_name pncok_8, by decide +kernel⟩
theorem km_142 : VM 142 (.retAddr 2) := ⟨wd_967, wd_968, by decide +kernel⟩
theorem gm_143 : GM 143 := ⟨wd_981, wd_59, cok_8, plainFor_of_name pncok_8, by decide +kernel⟩
theorem km_143 : VM 143 (.retAddr 1) := ⟨wd_979, wd_980, by decide +kernel⟩
theorem gm_144 : GM 144 := ⟨wd_985, wd_59, cok_8, plainFor_of_name pncok_8, by decide +kernel⟩
theorem km_144 : VM 144 (.retAddr 2) := ⟨wd_983, wd_984, by decide +kernel⟩
theorem gm_145 : GM 145 := ⟨wd_989, wd_59, cok_8, plainFor_of_name pncok_8, by decide +kernel⟩
theorem km_145 : VM 145 (.retAddr 3) := ⟨wd_987, wd_988, by decide +kernel⟩
theorem gm_146 : GM 146 := ⟨wd_997, wd_59, cok_8, plainFor_of_name pncok_8, by decide +kernel⟩
theorem km_146 : VM 146 (.retAddr 1) := ⟨wd_996, wd_44, by decide +kernel⟩
theorem gm_147 : GM 147 := ⟨wd_993, wd_59, cok_8, plainFor_of_name pncok_8, by decide +kernel⟩
theorem km_147 : VM 147 (.retAddr 2) := ⟨wd_991, wd_992, by decide +kernel⟩
theorem gm_148 : GM 148 := ⟨wd_1001, wd_59, cok_8, plainFor_of_name pncok_8, by decide +kernel⟩
theorem km_148 : VM 148 (.retAddr 1) := ⟨wd_999, wd_1000, by decide +kernel⟩
theorem gm_149 : GM 149 := ⟨wd_1005, wd_59, cok_8, plainFor_of_name pncok_8, by decide +kernel⟩
theorem km_149 : VM 149 (.retAddr 2) := ⟨wd_1003, wd_1004, by decide +kernel⟩
theorem gm_150 : GM 150 := ⟨wd_1009, wd_59, cok_8, plainFor_of_name pncok_8, by decide +kernel⟩
theorem km_150 : VM 150 (.retAddr 1) := ⟨wd_1007, wd_1008, by decide +kernel⟩
theorem gm_151 : GM 151 := ⟨wd_1021, wd_59, cok_8, plainFor_of_name pncok_8, by decide +kernel⟩
theorem km_151 : VM 151 (.retAddr 1) := ⟨wd_1020, wd_46, by decide +kernel⟩
theorem gm_152 : GM 152 := ⟨wd_1032, wd_59, cok_8, plainFor_of_name pncok_8, by decide +kernel⟩
theorem km_152 : VM 152 (.retAddr 2) := ⟨wd_1031, wd_48, by decide +kernel⟩
theorem gm_153 : GM 153 := ⟨wd_1036, wd_59, cok_8, plainFor_of_name pncok_8, by decide +kernel⟩
theorem km_153 : VM 153 (.retAddr 1) := ⟨wd_1035, wd_49, by decide +kernel⟩
theorem gm_154 : GM 154 := ⟨wd_1028, wd_59, cok_8, plainFor_of_name pncok_8, by decide +kernel⟩
theorem km_154 : SM 154 (.retAddr 1) := ⟨wd_1027, by decide +kernel⟩
theorem gm_155 : GM 155 := ⟨wd_1025, wd_59, cok_8, plainFor_of_name pncok_8, by decide +kernel⟩
theorem km_155 : VM 155 (.retAddr 2) := ⟨wd_1024, wd_47, by decide +kernel⟩
theorem gm_156 : GM 156 := ⟨wd_1040, wd_59, cok_8, plainFor_of_name pncok_8, by decide +kernel⟩
theorem km_156 : VM 156 (.retAddr 2) := ⟨wd_1039, wd_50, by decide +kernel⟩
theorem gm_157 : GM 157 := ⟨wd_1017, wd_59, cok_8, plainFor_of_name pncok_8, by decide +kernel⟩
theorem km_157 : VM 157 (.retAddr 1) := ⟨wd_1016, wd_45, by decide +kernel⟩
theorem gm_158 : GM 158 := ⟨wd_1013, wd_59, cok_8, plainFor_of_name pncok_8, by decide +kernel⟩
theorem km_158 : VM 158 (.retAddr 2) := ⟨wd_1011, wd_1012, by decide +kernel⟩
theorem gm_159 : GM 159 := ⟨wd_1044, wd_59, cok_8, plainFor_of_name pncok_8, by decide +kernel⟩
theorem km_159 : VM 159 (.retAddr 1) := ⟨wd_1042, wd_1043, by decide +kernel⟩
theorem gm_160 : GM 160 := ⟨wd_961, wd_61, cok_9, by decide +kernel, by decide +kernel⟩
theorem km_160 : SM 160 (.retAddr 1) := ⟨wd_960, by decide +kernel⟩
theorem gm_161 : GM 161 := ⟨wd_958, wd_61, cok_9, by decide +kernel, by decide +kernel⟩
theorem km_161 : SM 161 (.retAddr 1) := ⟨wd_957, by decide +kernel⟩
theorem lk0_0 : allP (LkP 0) cd0_0 := ⟨wd_62, trivial, ⟨rfl, Or.inl wd_64, gm_1, km_1⟩, trivial, wd_698, trivial, ⟨rfl, Or.inl wd_700, gm_94, km_94⟩, trivial, trivial, trivial, trivial, trivial, trivial, trivial, trivial, trivial, trivial, trivial, trivial, trivial, trivial, trivial, trivial, ⟨rfl, wd_295, gm_2, km_2⟩, trivial, ⟨rfl, wd_774, gm_126, km_126⟩, trivial, trivial, trivial, trivial, trivial, trivial, trivial, trivial, trivial, trivial, trivial, trivial, trivial, trivial, trivial, trivial, trivial, trivial, trivial, ⟨rfl, wd_327, gm_3, km_3⟩, trivial, trivial, trivial, trivial, trivial⟩
theorem ck0_0 : cd0_0.all (good 0) = true := by decide +kernel
theorem lk0_1 : allP (LkP 0) cd0_1 := ⟨trivial, trivial, trivial, trivial, trivial, trivial, trivial, trivial, trivial, trivial, trivial, trivial, ⟨rfl, wd_798, gm_127, km_127⟩, trivial, trivial, trivial, trivial, trivial, trivial, trivial, trivial, trivial, trivial, trivial, trivial, trivial, trivial, trivial, trivial, trivial, trivial, ⟨rfl, wd_347, gm_4, km_4⟩, trivial, trivial, trivial, trivial, trivial, trivial, trivial, trivial, trivial, trivial, trivial, trivial, trivial, trivial, trivial, ⟨rfl, wd_814, gm_128, km_128⟩, trivial, trivial, trivial⟩
theorem ck0_1 : cd0_1.all (good 0) = true := by decide +kernel
theorem lk0_2 : allP (LkP 0) cd0_2 := ⟨trivial, trivial, trivial, trivial, trivial, trivial, trivial, ⟨rfl, wd_368, gm_5, km_5⟩, trivial, trivial, trivial, trivial, trivial, trivial, ⟨rfl, wd_839, gm_129, km_129⟩, trivial, trivial, trivial, trivial, trivial, trivial, trivial, trivial, trivial, ⟨rfl, wd_380, gm_6, km_6⟩, trivial, trivial, trivial, trivial, trivial, trivial, ⟨rfl, wd_847, gm_130, km_130⟩, trivial, trivial, trivial, trivial, ⟨rfl, wd_491, gm_7, km_7⟩, trivial, ⟨rfl, wd_901, gm_131, km_131⟩, trivial, trivial, trivial, trivial, trivial, trivial, trivial, trivial, trivial, trivial, trivial, trivial⟩
theorem ck0_2 : cd0_2.all (good 0) = true := by decide +kernel
theorem lk0_3 : allP (LkP 0) cd0_3 := ⟨trivial, trivial, trivial, ⟨rfl, wd_503, gm_8, km_8⟩, trivial, trivial, trivial, trivial, trivial, trivial, trivial, trivial, trivial, trivial, trivial, ⟨rfl, wd_909, gm_132, km_132⟩, trivial, trivial, trivial, trivial, trivial, trivial, trivial, trivial, trivial, trivial, trivial, trivial, trivial, trivial, ⟨rfl, wd_515, gm_9, km_9⟩, trivial, trivial, trivial, trivial, trivial, trivial, trivial, trivial, trivial, trivial, trivial, ⟨rfl, wd_920, gm_134, km_134⟩, trivial, trivial, trivial, trivial, trivial, trivial, trivial, trivial⟩
theorem ck0_3 : cd0_3.all (good 0) = true := by decide +kernel
theorem lk0_4 : allP (LkP 0) cd0_4 := ⟨trivial, trivial, trivial, trivial, trivial, trivial, trivial, ⟨rfl, wd_523, gm_10, km_10⟩, trivial, trivial, trivial, trivial, trivial, trivial, trivial, trivial, trivial, trivial, trivial, ⟨rfl, wd_928, gm_136, km_136⟩, trivial, trivial, trivial, trivial, trivial, trivial, trivial, trivial, trivial, ⟨rfl, wd_550, gm_11, km_11⟩, trivial, trivial, trivial, trivial, trivial, trivial, ⟨rfl, wd_944, gm_137, km_137⟩, trivial, trivial, trivial, trivial, trivial, trivial, trivial, trivial, trivial, ⟨rfl, wd_556, gm_12, km_12⟩, trivial, trivial, trivial, trivial⟩
theorem ck0_4 : cd0_4.all (good 0) = true := by decide +kernel
theorem lk0_5 : allP (LkP 0) cd0_5 := ⟨trivial, trivial, trivial, ⟨rfl, wd_948, gm_138, km_138⟩, trivial, trivial, trivial, trivial, trivial, trivial, trivial, trivial, trivial, trivial, trivial, trivial, trivial, trivial, ⟨rfl, wd_561, gm_13, km_13⟩, trivial, trivial, trivial, trivial, trivial, trivial, trivial, trivial, trivial, trivial, trivial, ⟨rfl, wd_952, gm_139, km_139⟩, trivial, trivial, trivial, trivial, trivial, trivial, trivial, trivial, trivial, ⟨rfl, wd_575, gm_14, km_14⟩, trivial, trivial, trivial, trivial, trivial, trivial, ⟨rfl, wd_966, gm_142, km_142⟩, trivial, trivial, trivial⟩
theorem ck0_5 : cd0_5.all (good 0) = true := by decide +kernel
theorem lk0_6 : allP (LkP 0) cd0_6 := ⟨trivial, trivial, ⟨rfl, wd_599, gm_15, km_15⟩, trivial, ⟨rfl, wd_978, gm_143, km_143⟩, trivial, trivial, trivial, trivial, trivial, trivial, trivial, trivial, trivial, ⟨rfl, wd_603, gm_16, km_16⟩, trivial, trivial, trivial, trivial, trivial, trivial, ⟨rfl, wd_982, gm_144, km_144⟩, trivial, trivial, trivial, trivial, trivial, trivial, trivial, trivial, trivial, trivial, trivial, trivial, trivial, trivial, ⟨rfl, wd_609, gm_17, km_17⟩, trivial, trivial, trivial, trivial, trivial, trivial, trivial, trivial, trivial, trivial, trivial, ⟨rfl, wd_986, gm_145, km_145⟩, trivial, trivial⟩
theorem ck0_6 : cd0_6.all (good 0) = true := by decide +kernel
theorem lk0_7 : allP (LkP 0) cd0_7 := ⟨trivial, trivial, trivial, trivial, trivial, trivial, trivial, trivial, ⟨rfl, wd_615, gm_18, km_18⟩, trivial, trivial, trivial, trivial, trivial, trivial, ⟨rfl, wd_990, gm_147, km_147⟩, trivial, trivial, trivial, trivial, ⟨rfl, wd_625, gm_19, km_19⟩, trivial, ⟨rfl, wd_998, gm_148, km_148⟩, trivial, trivial, trivial, trivial, trivial, trivial, trivial, trivial, trivial, ⟨rfl, wd_634, gm_20, km_20⟩, trivial, trivial, trivial, trivial, trivial, trivial, ⟨rfl, wd_1002, gm_149, km_149⟩, trivial, trivial, trivial, trivial, ⟨rfl, wd_645, gm_21, km_21⟩, trivial, ⟨rfl, wd_1006, gm_150, km_150⟩, trivial, trivial, trivial, trivial⟩
theorem ck0_7 : cd0_7.all (good 0) = true := by decide +kernel
theorem lk0_8 : allP (LkP 0) cd0_8 := ⟨trivial, trivial, trivial, trivial, trivial, trivial, ⟨rfl, wd_653, gm_22, km_22⟩, trivial, trivial, trivial, trivial, trivial, trivial, ⟨rfl, wd_1010, gm_158, km_158⟩, trivial, trivial, trivial, trivial, ⟨rfl, wd_694, gm_23, km_23⟩, trivial, ⟨rfl, wd_1041, gm_159, km_159⟩, trivial, trivial, trivial, trivial, trivial, trivial, trivial, trivial⟩
theorem ck0_8 : cd0_8.all (good 0) = true := by decide +kernel
theorem lk0 : allP (LkP 0) cd0 := allP_app lk0_0 (allP_app lk0_1 (allP_app lk0_2 (allP_app lk0_3 (allP_app lk0_4 (allP_app lk0_5 (allP_app lk0_6 (allP_app lk0_7 (lk0_8))))))))
theorem ck0 : cd0.all (good 0) = true := all_app ck0_0 (all_app ck0_1 (all_app ck0_2 (all_app ck0_3 (all_app ck0_4 (all_app ck0_5 (all_app ck0_6 (all_app ck0_7 (ck0_8))))))))
theorem lk1 : allP (LkP 1) cd1 := ⟨trivial, wd_67, trivial, wd_70, trivial, ⟨rfl, Or.inl wd_72, gm_36, km_36⟩, ⟨wd_276, ⟨rfl, rfl, rfl⟩⟩, trivial, wd_70, trivial, ⟨rfl, Or.inl wd_72, gm_36, km_36⟩, ⟨wd_277, ⟨rfl, rfl, rfl⟩⟩, trivial, wd_188, trivial, ⟨rfl, Or.inl wd_190, gm_63, km_63⟩, ⟨wd_278, ⟨rfl, rfl, rfl⟩⟩, trivial, wd_205, trivial, ⟨rfl, Or.inr wd_207, gm_29, km_29⟩, ⟨wd_279, ⟨rfl, rfl, rfl⟩⟩, trivial, wd_224, trivial, ⟨rfl, Or.inr wd_226, gm_79, km_79⟩, ⟨wd_280, ⟨rfl, rfl, rfl⟩⟩, trivial, wd_240, trivial, ⟨rfl, Or.inr wd_242, gm_68, km_68⟩, ⟨wd_281, ⟨rfl, rfl, rfl⟩⟩, trivial, trivial⟩
theorem ck1 : cd1.all (good 1) = true := by decide +kernel
theorem lk2 : allP (LkP 2) cd2 := ⟨trivial, wd_278, trivial, wd_276, ⟨rfl, wd_299, gm_64, km_64⟩, trivial, wd_278, trivial, wd_276, ⟨rfl, wd_310, gm_52, km_52⟩, ⟨rfl, wd_315, gm_65, km_65⟩, trivial, trivial⟩
theorem ck2 : cd2.all (good 2) = true := by decide +kernel
theorem lk3 : allP (LkP 3) cd3 := ⟨trivial, wd_278, trivial, wd_276, ⟨rfl, wd_299, gm_64, km_64⟩, trivial, wd_278, trivial, wd_276, trivial, trivial, trivial, ⟨rfl, wd_331, gm_53, km_53⟩, ⟨rfl, wd_315, gm_65, km_65⟩, trivial, trivial⟩
theorem ck3 : cd3.all (good 3) = true := by decide +kernel
theorem lk4 : allP (LkP 4) cd4 := ⟨trivial, wd_278, trivial, wd_276, ⟨rfl, wd_299, gm_64, km_64⟩, trivial, wd_278, trivial, wd_276, trivial, trivial, ⟨rfl, wd_351, gm_54, km_54⟩, ⟨rfl, wd_315, gm_65, km_65⟩, trivial, trivial⟩
theorem ck4 : cd4.all (good 4) = true := by decide +kernel
theorem lk5 : allP (LkP 5) cd5 := ⟨trivial, wd_278, trivial, wd_276, ⟨rfl, wd_299, gm_64, km_64⟩, trivial, wd_278, trivial, wd_276, trivial, ⟨rfl, wd_372, gm_55, km_55⟩, ⟨rfl, wd_315, gm_65, km_65⟩, trivial, trivial⟩
theorem ck5 : cd5.all (good 5) = true := by decide +kernel
theorem lk6 : allP (LkP 6) cd6 := ⟨trivial, wd_278, trivial, wd_276, ⟨rfl, wd_299, gm_64, km_64⟩, trivial, wd_278, trivial, wd_279, trivial, wd_276, trivial, ⟨rfl, wd_384, gm_30, km_30⟩, ⟨rfl, wd_315, gm_65, km_65⟩, trivial, trivial⟩
theorem ck6 : cd6.all (good 6) = true := by decide +kernel
theorem lk7 : allP (LkP 7) cd7 := ⟨trivial, wd_278, trivial, wd_276, ⟨rfl, wd_299, gm_64, km_64⟩, trivial, wd_278, trivial, wd_276, ⟨rfl, wd_495, gm_56, km_56⟩, ⟨rfl, wd_315, gm_65, km_65⟩, trivial, trivial⟩
theorem ck7 : cd7.all (good 7) = true := by decide +kernel
theorem lk8 : allP (LkP 8) cd8 := ⟨trivial, wd_278, trivial, wd_276, ⟨rfl, wd_299, gm_64, km_64⟩, trivial, wd_278, trivial, wd_276, trivial, trivial, ⟨rfl, wd_507, gm_57, km_57⟩, ⟨rfl, wd_315, gm_65, km_65⟩, trivial, trivial⟩
theorem ck8 : cd8.all (good 8) = true := by decide +kernel
theorem lk9_0 : allP (LkP 9) cd9_0 := ⟨trivial, wd_276, trivial, ⟨rfl, wd_519, gm_39, km_39⟩, trivial, wd_322, trivial, trivial, trivial, trivial, wd_276, wd_123, trivial, trivial, trivial, trivial, wd_276, wd_126, trivial, trivial, trivial, trivial, wd_276, wd_129, trivial, trivial, trivial, trivial, wd_276, wd_132, trivial, trivial, trivial, trivial, wd_276, trivial, ⟨rfl, wd_520, gm_42, km_42⟩, trivial, trivial, trivial, trivial, trivial, trivial, wd_276, trivial, ⟨rfl, wd_521, gm_45, km_45⟩, trivial, trivial, wd_276, wd_134, trivial⟩
theorem ck9_0 : cd9_0.all (good 9) = true := by decide +kernel
theorem lk9_1 : allP (LkP 9) cd9_1 := ⟨trivial, trivial, trivial, trivial, wd_276, wd_150, trivial, ⟨rfl, wd_522, gm_90, km_90⟩, trivial, trivial, trivial, trivial, trivial, wd_322, trivial, trivial⟩
theorem ck9_1 : cd9_1.all (good 9) = true := by decide +kernel
theorem lk9 : allP (LkP 9) cd9 := allP_app lk9_0 (lk9_1)
theorem ck9 : cd9.all (good 9) = true := all_app ck9_0 (ck9_1)
theorem lk10 : allP (LkP 10) cd10 := ⟨trivial, wd_276, trivial, ⟨rfl, wd_527, gm_38, km_38⟩, trivial, wd_322, trivial, trivial, trivial, trivial, wd_276, trivial, ⟨rfl, wd_528, gm_48, km_48⟩, trivial, trivial, wd_276, wd_114, trivial, trivial, trivial, trivial, wd_276, wd_116, trivial, trivial, trivial, trivial, wd_280, trivial, wd_276, trivial, ⟨rfl, wd_533, gm_80, km_80⟩, trivial, trivial, wd_276, ⟨rfl, wd_548, gm_41, km_41⟩, trivial, trivial, wd_276, wd_150, trivial, ⟨rfl, wd_549, gm_91, km_91⟩, trivial, trivial, trivial, trivial, trivial, wd_322, trivial, trivial⟩
theorem ck10 : cd10.all (good 10) = true := by decide +kernel
theorem lk11 : allP (LkP 11) cd11 := ⟨trivial, trivial, trivial, ⟨Or.inl wd_554, gm_24, km_24⟩, trivial, wd_322, trivial, trivial, wd_276, ⟨rfl, wd_548, gm_41, km_41⟩, trivial, wd_555, trivial, trivial, trivial, trivial, wd_276, wd_150, wd_88, trivial, trivial, wd_276, wd_150, wd_85, trivial, trivial, wd_276, wd_152, trivial, trivial, wd_276, wd_150, wd_91, trivial, trivial⟩
theorem ck11 : cd11.all (good 11) = true := by decide +kernel
theorem lk12 : allP (LkP 12) cd12 := ⟨trivial, trivial, wd_322, trivial, trivial, wd_276, ⟨rfl, wd_548, gm_41, km_41⟩, trivial, trivial, trivial, wd_276, wd_150, wd_85, trivial, wd_555, trivial, trivial, wd_276, wd_150, trivial, ⟨rfl, wd_560, gm_88, km_88⟩, trivial, trivial⟩
theorem ck12 : cd12.all (good 12) = true := by decide +kernel
theorem lk13 : allP (LkP 13) cd13 := ⟨trivial, wd_276, trivial, ⟨rfl, wd_527, gm_38, km_38⟩, trivial, trivial, wd_276, trivial, ⟨rfl, wd_519, gm_39, km_39⟩, trivial, wd_322, trivial, trivial, wd_276, trivial, ⟨rfl, wd_565, gm_49, km_49⟩, trivial, trivial, wd_276, trivial, trivial, ⟨rfl, wd_570, gm_46, km_46⟩, trivial, trivial, trivial, trivial, trivial, wd_555, trivial, trivial, wd_276, trivial, ⟨rfl, wd_521, gm_45, km_45⟩, trivial, trivial, trivial, trivial, ⟨Or.inl wd_571, gm_28, km_28⟩, trivial, trivial⟩
theorem ck13 : cd13.all (good 13) = true := by decide +kernel
theorem lk14 : allP (LkP 14) cd14 := ⟨trivial, trivial, trivial, ⟨Or.inl wd_554, gm_24, km_24⟩, trivial, wd_322, trivial, trivial, wd_276, ⟨rfl, wd_579, gm_40, km_40⟩, trivial, wd_580, trivial, trivial, wd_280, trivial, wd_276, ⟨rfl, wd_581, gm_82, km_82⟩, trivial, trivial, trivial, wd_280, wd_234, wd_88, trivial, trivial, wd_280, wd_234, wd_85, trivial, trivial, wd_280, wd_234, ⟨rfl, wd_598, gm_89, km_89⟩, trivial, wd_276, wd_139, trivial, trivial, trivial, trivial, trivial, trivial, wd_280, wd_234, ⟨rfl, wd_598, gm_89, km_89⟩, trivial, trivial⟩
theorem ck14 : cd14.all (good 14) = true := by decide +kernel
theorem lk15 : allP (LkP 15) cd15 := ⟨trivial, wd_280, trivial, wd_276, trivial, wd_276, wd_139, ⟨rfl, wd_533, gm_80, km_80⟩, trivial, trivial, wd_276, ⟨rfl, wd_548, gm_41, km_41⟩, trivial, trivial, wd_555, trivial, wd_555, trivial, trivial, wd_276, wd_150, wd_88, trivial, trivial, trivial, trivial⟩
theorem ck15 : cd15.all (good 15) = true := by decide +kernel
theorem lk16 : allP (LkP 16) cd16 := ⟨trivial, trivial, trivial, ⟨Or.inl wd_554, gm_24, km_24⟩, trivial, wd_322, trivial, trivial, wd_276, ⟨rfl, wd_579, gm_40, km_40⟩, trivial, wd_580, trivial, trivial, wd_276, trivial, wd_277, ⟨Or.inl wd_607, gm_37, km_37⟩, trivial, wd_279, trivial, wd_277, ⟨rfl, wd_608, gm_33, km_33⟩, trivial, trivial, trivial, trivial, trivial, trivial, wd_279, wd_214, wd_88, trivial, trivial, wd_279, wd_214, ⟨rfl, wd_598, gm_89, km_89⟩, trivial, trivial⟩
theorem ck16 : cd16.all (good 16) = true := by decide +kernel
theorem lk17 : allP (LkP 17) cd17 := ⟨trivial, trivial, trivial, ⟨Or.inl wd_554, gm_24, km_24⟩, trivial, wd_322, trivial, trivial, wd_276, trivial, wd_277, ⟨Or.inl wd_607, gm_37, km_37⟩, trivial, wd_279, trivial, wd_277, trivial, ⟨rfl, wd_384, gm_30, km_30⟩, trivial, trivial, ⟨Or.inl wd_613, gm_25, km_25⟩, trivial, trivial, trivial, trivial, trivial, trivial, trivial, trivial, wd_277, wd_148, trivial, trivial, trivial, wd_276, wd_148, trivial, trivial, trivial, trivial, trivial, wd_277, ⟨rfl, wd_548, gm_41, km_41⟩, trivial, trivial, wd_277, wd_150, wd_88, trivial, wd_555, trivial, trivial, wd_277, ⟨rfl, wd_614, gm_50, km_50⟩, trivial, trivial⟩
theorem ck17 : cd17.all (good 17) = true := by decide +kernel
theorem lk18_0 : allP (LkP 18) cd18_0 := ⟨trivial, trivial, trivial, ⟨Or.inl wd_554, gm_24, km_24⟩, trivial, trivial, wd_276, trivial, trivial, trivial, ⟨rfl, wd_619, gm_43, km_43⟩, trivial, trivial, trivial, trivial, wd_276, wd_112, trivial, trivial, wd_276, wd_120, trivial, trivial, wd_276, ⟨rfl, wd_620, gm_47, km_47⟩, trivial, trivial, wd_276, wd_145, trivial, trivial, wd_276, wd_148, trivial, trivial, trivial, wd_276, wd_148, trivial, trivial, trivial, trivial, wd_276, wd_148, trivial, trivial, trivial, trivial, trivial, wd_276, trivial⟩
theorem ck18_0 : cd18_0.all (good 18) = true := by decide +kernel
theorem lk18_1 : allP (LkP 18) cd18_1 := ⟨wd_148, trivial, trivial, trivial, trivial, wd_276, wd_148, trivial, trivial, trivial, trivial, wd_276, wd_148, trivial, trivial, trivial, trivial, wd_276, ⟨rfl, wd_614, gm_50, km_50⟩, trivial, trivial, wd_276, ⟨rfl, wd_621, gm_51, km_51⟩, trivial, trivial, wd_276, wd_139, trivial, trivial, wd_276, wd_141, trivial, trivial, wd_278, wd_199, trivial, trivial, wd_281, wd_248, trivial, wd_322, trivial, trivial⟩
theorem ck18_1 : cd18_1.all (good 18) = true := by decide +kernel
theorem lk18 : allP (LkP 18) cd18 := allP_app lk18_0 (lk18_1)
theorem ck18 : cd18.all (good 18) = true := all_app ck18_0 (ck18_1)
theorem lk19 : allP (LkP 19) cd19 := ⟨trivial, wd_278, trivial, wd_276, ⟨rfl, wd_629, gm_67, km_67⟩, trivial, trivial⟩
theorem ck19 : cd19.all (good 19) = true := by decide +kernel
theorem lk20 : allP (LkP 20) cd20 := ⟨trivial, wd_281, trivial, ⟨rfl, wd_638, gm_69, km_69⟩, trivial, trivial⟩
theorem ck20 : cd20.all (good 20) = true := by decide +kernel
theorem lk21 : allP (LkP 21) cd21 := ⟨trivial, wd_281, ⟨rfl, wd_649, gm_70, km_70⟩, trivial, trivial⟩
theorem ck21 : cd21.all (good 21) = true := by decide +kernel
theorem lk22 : allP (LkP 22) cd22 := ⟨trivial, trivial, trivial, ⟨Or.inl wd_554, gm_24, km_24⟩, trivial, wd_322, trivial, trivial, wd_276, trivial, wd_277, ⟨Or.inl wd_607, gm_37, km_37⟩, trivial, wd_281, trivial, wd_277, trivial, wd_279, ⟨rfl, wd_657, gm_71, km_71⟩, trivial, trivial, wd_281, wd_253, trivial, wd_555, trivial, trivial, trivial, trivial, wd_281, wd_255, trivial, trivial, wd_281, wd_253, trivial, trivial, wd_281, wd_257, trivial, trivial⟩
theorem ck22 : cd22.all (good 22) = true := by decide +kernel
theorem lk23 : allP (LkP 23) cd23 := ⟨trivial, wd_276, trivial, wd_277, ⟨Or.inl wd_607, gm_37, km_37⟩, trivial, wd_281, trivial, wd_277, trivial, wd_279, ⟨rfl, wd_657, gm_71, km_71⟩, trivial, trivial, wd_281, wd_253, trivial, wd_580, trivial, trivial, wd_278, trivial, wd_276, ⟨rfl, wd_299, gm_64, km_64⟩, trivial, wd_277, trivial, wd_276, ⟨Or.inl wd_607, gm_37, km_37⟩, trivial, wd_278, trivial, ⟨rfl, wd_315, gm_65, km_65⟩, trivial, trivial⟩
theorem ck23 : cd23.all (good 23) = true := by decide +kernel
theorem lk24 : allP (LkP 24) cd24 := ⟨trivial, trivial, trivial, trivial, trivial, trivial, trivial, trivial, trivial, trivial, trivial⟩
theorem ck24 : cd24.all (good 24) = true := by decide +kernel
theorem lk25 : allP (LkP 25) cd25 := ⟨trivial, wd_322, trivial, trivial, trivial, trivial, trivial, trivial⟩
theorem ck25 : cd25.all (good 25) = true := by decide +kernel
theorem lk26 : allP (LkP 26) cd26 := ⟨trivial, trivial, trivial, trivial, trivial, trivial, trivial, trivial, trivial, trivial, trivial, trivial⟩
theorem ck26 : cd26.all (good 26) = true := by decide +kernel
theorem lk27 : allP (LkP 27) cd27 := ⟨trivial, trivial, trivial, trivial, trivial, trivial, trivial, trivial, trivial, trivial, trivial, trivial, trivial, trivial, trivial, trivial, trivial, trivial, trivial, trivial⟩
theorem ck27 : cd27.all (good 27) = true := by decide +kernel
theorem lk28 : allP (LkP 28) cd28 := ⟨trivial, trivial, trivial, trivial, trivial, trivial, trivial, trivial, trivial, trivial, trivial, trivial, trivial, trivial, trivial, trivial, trivial, trivial, trivial, trivial, wd_574, trivial, trivial, trivial, trivial, trivial, trivial, trivial, trivial, trivial, trivial⟩
theorem ck28 : cd28.all (good 28) = true := by decide +kernel
theorem lk29 : allP (LkP 29) cd29 := ⟨trivial, wd_210, trivial, wd_211, trivial, ⟨rfl, Or.inr wd_212, gm_85, km_85⟩, ⟨wd_213, ⟨rfl, rfl, rfl⟩⟩, trivial, trivial, trivial, ⟨wd_215, ⟨rfl, rfl, rfl⟩⟩, trivial, trivial, trivial, ⟨wd_216, ⟨rfl, rfl, rfl⟩⟩, trivial, trivial⟩
theorem ck29 : cd29.all (good 29) = true := by decide +kernel
theorem lk30_0 : allP (LkP 30) cd30_0 := ⟨trivial, trivial, trivial, ⟨Or.inr wd_388, gm_24, km_24⟩, trivial, wd_389, trivial, trivial, ⟨rfl, wd_390, gm_40, km_40⟩, trivial, wd_394, trivial, trivial, wd_147, trivial, trivial, trivial, trivial, trivial, ⟨rfl, wd_395, gm_43, km_43⟩, trivial, trivial, trivial, trivial, trivial, trivial, trivial, ⟨rfl, wd_396, gm_31, km_31⟩, trivial, trivial, trivial, trivial, trivial, trivial, trivial, ⟨rfl, wd_400, gm_33, km_33⟩, trivial, trivial, trivial, wd_213, trivial, ⟨rfl, wd_450, gm_59, km_59⟩, trivial, trivial, trivial, trivial, trivial, wd_213, ⟨rfl, wd_463, gm_61, km_61⟩, ⟨rfl, wd_467, gm_32, km_32⟩, trivial⟩
theorem ck30_0 : cd30_0.all (good 30) = true := by decide +kernel
theorem lk30_1 : allP (LkP 30) cd30_1 := ⟨trivial, trivial, wd_213, ⟨rfl, wd_472, gm_60, km_60⟩, trivial, trivial, trivial, trivial, wd_215, ⟨rfl, wd_480, gm_62, km_62⟩, trivial, trivial, wd_144, trivial, trivial, ⟨wd_144, trivial⟩, trivial, trivial, trivial, wd_147, trivial, trivial, trivial, trivial, trivial, trivial⟩
theorem ck30_1 : cd30_1.all (good 30) = true := by decide +kernel
theorem lk30 : allP (LkP 30) cd30 := allP_app lk30_0 (lk30_1)
theorem ck30 : cd30.all (good 30) = true := all_app ck30_0 (ck30_1)
theorem lk31 : allP (LkP 31) cd31 := ⟨trivial, trivial, trivial, trivial, wd_215, trivial, trivial, trivial, wd_215, trivial, trivial, trivial, trivial, trivial, trivial, trivial⟩
theorem ck31 : cd31.all (good 31) = true := by decide +kernel
theorem lk32 : allP (LkP 32) cd32 := ⟨trivial, trivial, trivial, trivial, wd_215, trivial, trivial, trivial, wd_215, trivial, trivial, trivial, trivial, wd_213, trivial, ⟨rfl, wd_471, gm_90, km_90⟩, trivial, trivial, trivial, trivial, trivial, trivial, trivial, trivial, trivial, trivial⟩
theorem ck32 : cd32.all (good 32) = true := by decide +kernel
theorem lk33 : allP (LkP 33) cd33 := ⟨trivial, wd_213, ⟨rfl, wd_404, gm_86, km_86⟩, trivial, trivial, trivial, trivial, trivial, trivial, wd_213, ⟨rfl, wd_405, gm_89, km_89⟩, trivial, wd_138, trivial, trivial, trivial, ⟨rfl, wd_413, gm_34, km_34⟩, trivial, trivial, trivial, trivial, trivial, trivial, trivial, trivial, trivial, ⟨rfl, wd_432, gm_58, km_58⟩, ⟨rfl, wd_438, gm_35, km_35⟩, trivial, trivial, trivial, ⟨rfl, wd_442, gm_44, km_44⟩, trivial, trivial, wd_213, wd_87, trivial, trivial, trivial, trivial, ⟨rfl, wd_395, gm_43, km_43⟩, trivial, trivial, trivial, trivial, wd_213, trivial, trivial, trivial, trivial, wd_213, ⟨rfl, wd_405, gm_89, km_89⟩, ⟨rfl, wd_417, gm_46, km_46⟩, trivial, ⟨rfl, wd_446, gm_87, km_87⟩, trivial, trivial, trivial, trivial, trivial⟩
theorem ck33 : cd33.all (good 33) = true := by decide +kernel
theorem lk34 : allP (LkP 34) cd34 := ⟨trivial, wd_213, ⟨rfl, wd_405, gm_89, km_89⟩, trivial, trivial, trivial, trivial, trivial, trivial, trivial, wd_119, trivial, trivial, trivial, wd_216, trivial, trivial, trivial, wd_216, trivial, trivial, wd_213, trivial, trivial, trivial, ⟨rfl, wd_417, gm_46, km_46⟩, ⟨rfl, wd_421, gm_92, km_92⟩, trivial, trivial, trivial, ⟨rfl, wd_428, gm_45, km_45⟩, trivial, trivial, trivial, trivial, trivial, wd_216, trivial, trivial, trivial, trivial, trivial, trivial, trivial, trivial, trivial⟩
theorem ck34 : cd34.all (good 34) = true := by decide +kernel
theorem lk35 : allP (LkP 35) cd35 := ⟨trivial, trivial, trivial, trivial, trivial, trivial, wd_119, trivial, trivial, trivial, wd_216, trivial, trivial, trivial, trivial, wd_216, trivial, trivial, trivial, trivial, trivial, trivial, trivial, trivial, trivial, trivial, trivial, trivial, trivial⟩
theorem ck35 : cd35.all (good 35) = true := by decide +kernel
theorem lk36_0 : allP (LkP 36) cd36_0 := ⟨trivial, wd_75, trivial, trivial, ⟨wd_110, trivial⟩, trivial, trivial, trivial, ⟨wd_113, ⟨rfl, rfl, rfl⟩⟩, trivial, trivial, trivial, ⟨wd_115, ⟨rfl, rfl, rfl⟩⟩, trivial, trivial, ⟨wd_117, trivial⟩, trivial, trivial, trivial, ⟨wd_121, ⟨rfl, rfl, rfl⟩⟩, trivial, trivial, trivial, ⟨wd_124, ⟨rfl, rfl, rfl⟩⟩, trivial, trivial, trivial, ⟨wd_127, ⟨rfl, rfl, rfl⟩⟩, trivial, trivial, trivial, ⟨wd_130, ⟨rfl, rfl, rfl⟩⟩, trivial, trivial, trivial, ⟨wd_133, ⟨rfl, rfl, rfl⟩⟩, trivial, trivial, trivial, ⟨wd_135, ⟨rfl, rfl, rfl⟩⟩, trivial, trivial, ⟨wd_136, trivial⟩, trivial, trivial, ⟨wd_140, trivial⟩, trivial, trivial, trivial, ⟨wd_142, ⟨rfl, rfl, rfl⟩⟩, trivial⟩
theorem ck36_0 : cd36_0.all (good 36) = true := by decide +kernel
theorem lk36_1 : allP (LkP 36) cd36_1 := ⟨trivial, trivial, ⟨wd_143, trivial⟩, trivial, trivial, trivial, ⟨wd_146, ⟨rfl, rfl, rfl⟩⟩, trivial, wd_76, trivial, ⟨rfl, Or.inr wd_78, gm_85, km_85⟩, ⟨wd_149, ⟨rfl, rfl, rfl⟩⟩, trivial, trivial, ⟨wd_151, trivial⟩, wd_105, trivial, wd_142, ⟨Or.inr wd_107, gm_27, km_27⟩, trivial, trivial⟩
theorem ck36_1 : cd36_1.all (good 36) = true := by decide +kernel
theorem lk36 : allP (LkP 36) cd36 := allP_app lk36_0 (lk36_1)
theorem ck36 : cd36.all (good 36) = true := all_app ck36_0 (ck36_1)
theorem lk37_0 : allP (LkP 37) cd37_0 := ⟨trivial, trivial, trivial, trivial, trivial, trivial, trivial, wd_110, ⟨wd_110, trivial⟩, trivial, wd_113, trivial, wd_113, ⟨Or.inr wd_107, gm_27, km_27⟩, trivial, wd_115, trivial, wd_115, ⟨Or.inr wd_107, gm_27, km_27⟩, trivial, trivial, wd_117, ⟨wd_117, trivial⟩, trivial, wd_121, trivial, wd_121, ⟨Or.inr wd_107, gm_27, km_27⟩, trivial, wd_124, trivial, wd_124, ⟨Or.inr wd_107, gm_27, km_27⟩, trivial, wd_127, trivial, wd_127, ⟨Or.inr wd_107, gm_27, km_27⟩, trivial, wd_130, trivial, wd_130, ⟨Or.inr wd_107, gm_27, km_27⟩, trivial, wd_133, trivial, wd_133, ⟨Or.inr wd_107, gm_27, km_27⟩, trivial, wd_135, trivial⟩
theorem ck37_0 : cd37_0.all (good 37) = true := by decide +kernel
theorem lk37_1 : allP (LkP 37) cd37_1 := ⟨trivial, wd_135, ⟨Or.inr wd_107, gm_27, km_27⟩, trivial, trivial, wd_136, ⟨wd_136, trivial⟩, trivial, trivial, wd_140, ⟨wd_140, trivial⟩, trivial, wd_142, trivial, wd_142, ⟨Or.inr wd_107, gm_27, km_27⟩, trivial, trivial, wd_143, ⟨wd_143, trivial⟩, trivial, wd_146, trivial, wd_146, ⟨Or.inr wd_107, gm_27, km_27⟩, trivial, wd_149, trivial, wd_149, ⟨Or.inl wd_306, gm_93, km_93⟩, trivial, trivial, wd_151, ⟨wd_151, trivial⟩, trivial, trivial⟩
theorem ck37_1 : cd37_1.all (good 37) = true := by decide +kernel
theorem lk37 : allP (LkP 37) cd37 := allP_app lk37_0 (lk37_1)
theorem ck37 : cd37.all (good 37) = true := all_app ck37_0 (ck37_1)
theorem lk38 : allP (LkP 38) cd38 := ⟨trivial, trivial, trivial, trivial, wd_110, trivial, trivial, trivial, trivial, trivial, trivial, trivial, trivial, trivial⟩
theorem ck38 : cd38.all (good 38) = true := by decide +kernel
theorem lk39 : allP (LkP 39) cd39 := ⟨trivial, trivial, trivial, trivial, wd_117, trivial, trivial, trivial, trivial, trivial, trivial, trivial, trivial, trivial⟩
theorem ck39 : cd39.all (good 39) = true := by decide +kernel
theorem lk40 : allP (LkP 40) cd40 := ⟨trivial, wd_110, trivial, trivial, trivial, trivial, trivial, trivial, trivial⟩
theorem ck40 : cd40.all (good 40) = true := by decide +kernel
theorem lk41 : allP (LkP 41) cd41 := ⟨trivial, wd_149, wd_84, trivial, trivial, trivial, trivial, trivial, trivial⟩
theorem ck41 : cd41.all (good 41) = true := by decide +kernel
theorem lk42 : allP (LkP 42) cd42 := ⟨trivial, trivial, ⟨rfl, wd_355, gm_39, km_39⟩, trivial, trivial, wd_135, trivial, trivial, trivial, trivial, trivial, trivial, trivial, trivial, trivial⟩
theorem ck42 : cd42.all (good 42) = true := by decide +kernel
theorem lk43 : allP (LkP 43) cd43 := ⟨trivial, trivial, trivial, trivial, wd_142, trivial, trivial, trivial, wd_142, trivial, trivial, trivial, trivial, trivial, trivial⟩
theorem ck43 : cd43.all (good 43) = true := by decide +kernel
theorem lk44 : allP (LkP 44) cd44 := ⟨trivial, trivial, ⟨rfl, wd_355, gm_39, km_39⟩, trivial, trivial, wd_127, trivial, trivial, trivial, trivial, trivial, trivial⟩
theorem ck44 : cd44.all (good 44) = true := by decide +kernel
theorem lk45 : allP (LkP 45) cd45 := ⟨trivial, trivial, ⟨rfl, wd_355, gm_39, km_39⟩, trivial, trivial, wd_127, trivial, trivial, trivial, trivial, trivial, trivial, trivial, wd_130, trivial, trivial, trivial, trivial, trivial, wd_127, trivial, trivial, trivial, trivial, trivial, trivial, trivial⟩
theorem ck45 : cd45.all (good 45) = true := by decide +kernel
theorem lk46 : allP (LkP 46) cd46 := ⟨trivial, trivial, ⟨rfl, wd_355, gm_39, km_39⟩, trivial, trivial, wd_135, trivial, trivial, trivial, trivial, trivial, trivial, trivial, wd_121, trivial, trivial, trivial, trivial, trivial, wd_124, trivial, trivial, trivial, trivial, wd_124, trivial, trivial, trivial, trivial, trivial, wd_121, trivial, trivial, trivial, trivial, trivial, trivial⟩
theorem ck46 : cd46.all (good 46) = true := by decide +kernel
theorem lk47 : allP (LkP 47) cd47 := ⟨trivial, trivial, trivial, trivial, trivial, trivial, wd_117, trivial, trivial, trivial, trivial, ⟨rfl, wd_359, gm_42, km_42⟩, trivial, trivial, trivial, trivial, trivial, trivial, trivial, trivial, trivial, trivial, trivial⟩
theorem ck47 : cd47.all (good 47) = true := by decide +kernel
theorem lk48 : allP (LkP 48) cd48 := ⟨trivial, trivial, trivial, trivial, trivial, trivial, wd_117, trivial, trivial, trivial, trivial, trivial, ⟨rfl, wd_532, gm_46, km_46⟩, trivial, trivial, trivial, trivial, trivial, trivial, trivial, trivial, trivial, trivial, trivial, trivial⟩
theorem ck48 : cd48.all (good 48) = true := by decide +kernel
theorem lk49 : allP (LkP 49) cd49 := ⟨trivial, trivial, trivial, trivial, trivial, trivial, wd_117, trivial, trivial, trivial, trivial, trivial, ⟨rfl, wd_532, gm_46, km_46⟩, trivial, trivial, trivial, trivial, trivial, trivial, ⟨rfl, wd_569, gm_45, km_45⟩, trivial, trivial, trivial, trivial, trivial, trivial, trivial⟩
theorem ck49 : cd49.all (good 49) = true := by decide +kernel
theorem lk50 : allP (LkP 50) cd50 := ⟨trivial, trivial, trivial, trivial, trivial, trivial, wd_117, trivial, trivial, trivial, wd_130, trivial, trivial, trivial, trivial, wd_130, trivial, trivial, trivial, trivial, trivial, trivial, trivial, trivial, trivial⟩
theorem ck50 : cd50.all (good 50) = true := by decide +kernel
theorem lk51 : allP (LkP 51) cd51 := ⟨trivial, trivial, trivial, trivial, trivial, trivial, wd_117, trivial, trivial, trivial, wd_130, trivial, trivial, trivial, trivial, wd_130, trivial, trivial, wd_485, trivial, trivial, trivial, trivial, trivial, trivial⟩
theorem ck51 : cd51.all (good 51) = true := by decide +kernel
theorem lk52 : allP (LkP 52) cd52 := ⟨trivial, wd_110, trivial, trivial, wd_314, trivial, trivial, trivial, wd_110, trivial, trivial, ⟨wd_110, trivial⟩, trivial, wd_110, trivial, trivial, trivial, trivial⟩
theorem ck52 : cd52.all (good 52) = true := by decide +kernel
theorem lk53 : allP (LkP 53) cd53 := ⟨trivial, trivial, ⟨rfl, wd_335, gm_38, km_38⟩, trivial, trivial, trivial, ⟨rfl, wd_335, gm_38, km_38⟩, trivial, trivial, trivial, trivial, trivial, trivial, trivial, ⟨Or.inr wd_339, gm_24, km_24⟩, trivial, wd_342, trivial, trivial, wd_117, trivial, trivial, wd_117, trivial, trivial, wd_314, trivial, trivial, wd_117, trivial, trivial, wd_121, trivial, trivial, trivial, trivial, wd_124, trivial, trivial, trivial, trivial, wd_127, trivial, trivial, trivial, trivial, wd_130, trivial, trivial, trivial, ⟨rfl, wd_343, gm_43, km_43⟩, trivial, trivial, trivial, wd_117, trivial, trivial, ⟨wd_117, trivial⟩, trivial, trivial, trivial⟩
theorem ck53 : cd53.all (good 53) = true := by decide +kernel
theorem lk54 : allP (LkP 54) cd54 := ⟨trivial, trivial, ⟨rfl, wd_355, gm_39, km_39⟩, trivial, wd_342, trivial, trivial, trivial, ⟨rfl, wd_359, gm_42, km_42⟩, trivial, trivial, wd_363, trivial, trivial, wd_135, trivial, trivial, trivial, trivial, trivial, trivial, trivial, trivial, ⟨rfl, wd_364, gm_47, km_47⟩, trivial, trivial⟩
theorem ck54 : cd54.all (good 54) = true := by decide +kernel
theorem lk55 : allP (LkP 55) cd55 := ⟨trivial, trivial, trivial, trivial, ⟨rfl, wd_335, gm_38, km_38⟩, trivial, wd_342, trivial, trivial, trivial, wd_136, trivial, wd_363, trivial, trivial, wd_136, trivial, trivial, trivial, ⟨wd_136, trivial⟩, trivial, wd_149, ⟨rfl, wd_376, gm_86, km_86⟩, trivial, trivial, trivial⟩
theorem ck55 : cd55.all (good 55) = true := by decide +kernel
theorem lk56 : allP (LkP 56) cd56 := ⟨trivial, ⟨rfl, wd_499, gm_50, km_50⟩, trivial, trivial, trivial, trivial, trivial, wd_117, trivial, trivial, trivial, wd_130, trivial, trivial, trivial, wd_130, trivial, trivial, trivial, ⟨rfl, wd_343, gm_43, km_43⟩, trivial, trivial, trivial, trivial, wd_149, ⟨rfl, wd_376, gm_86, km_86⟩, trivial, trivial, ⟨rfl, wd_499, gm_50, km_50⟩, trivial, trivial, trivial⟩
theorem ck56 : cd56.all (good 56) = true := by decide +kernel
theorem lk57 : allP (LkP 57) cd57 := ⟨trivial, trivial, trivial, ⟨Or.inr wd_339, gm_24, km_24⟩, trivial, trivial, wd_511, trivial, trivial, wd_513, trivial, trivial, ⟨Or.inr wd_339, gm_24, km_24⟩, trivial, wd_342, trivial, trivial, wd_142, trivial, trivial, trivial, trivial, wd_142, trivial, trivial, trivial, trivial, trivial, trivial⟩
theorem ck57 : cd57.all (good 57) = true := by decide +kernel
theorem lk58 : allP (LkP 58) cd58 := ⟨trivial, trivial, trivial, trivial, trivial, trivial, trivial, wd_140, trivial, wd_436, trivial, wd_437, trivial, trivial, ⟨wd_140, trivial⟩, trivial, wd_140, trivial, trivial, trivial, trivial⟩
theorem ck58 : cd58.all (good 58) = true := by decide +kernel
theorem lk59_0 : allP (LkP 59) cd59_0 := ⟨trivial, trivial, trivial, trivial, wd_133, trivial, trivial, trivial, wd_133, trivial, trivial, trivial, trivial, trivial, ⟨rfl, wd_454, gm_90, km_90⟩, trivial, trivial, trivial, trivial, trivial, trivial, trivial, trivial, trivial, trivial, trivial, trivial, wd_113, trivial, trivial, trivial, wd_113, trivial, trivial, trivial, trivial, trivial, ⟨rfl, wd_458, gm_91, km_91⟩, trivial, trivial, trivial, trivial, trivial, trivial, trivial, trivial, trivial, trivial, trivial, trivial, trivial⟩
theorem ck59_0 : cd59_0.all (good 59) = true := by decide +kernel
theorem lk59_1 : allP (LkP 59) cd59_1 := ⟨wd_146, trivial, trivial, trivial, wd_146, trivial, trivial, trivial, trivial, trivial, trivial, trivial, ⟨rfl, wd_462, gm_89, km_89⟩, trivial, trivial, trivial, trivial, trivial, trivial, ⟨rfl, wd_335, gm_38, km_38⟩, trivial, trivial, wd_115, trivial, trivial, trivial, trivial, trivial, trivial, trivial, trivial⟩
theorem ck59_1 : cd59_1.all (good 59) = true := by decide +kernel
theorem lk59 : allP (LkP 59) cd59 := allP_app lk59_0 (lk59_1)
theorem ck59 : cd59.all (good 59) = true := all_app ck59_0 (ck59_1)
theorem lk60 : allP (LkP 60) cd60 := ⟨trivial, ⟨rfl, wd_476, gm_41, km_41⟩, trivial, trivial, wd_89, trivial, wd_149, wd_89, trivial, trivial, trivial, wd_149, ⟨Or.inl wd_306, gm_93, km_93⟩, trivial, trivial, wd_143, ⟨wd_151, trivial⟩, trivial, trivial⟩
theorem ck60 : cd60.all (good 60) = true := by decide +kernel
theorem lk61 : allP (LkP 61) cd61 := ⟨trivial, wd_89, trivial, trivial, trivial, trivial, trivial, trivial, ⟨rfl, wd_343, gm_43, km_43⟩, trivial, wd_89, trivial, trivial, trivial⟩
theorem ck61 : cd61.all (good 61) = true := by decide +kernel
theorem lk62_0 : allP (LkP 62) cd62_0 := ⟨trivial, ⟨rfl, wd_476, gm_41, km_41⟩, trivial, trivial, trivial, ⟨rfl, wd_343, gm_43, km_43⟩, trivial, trivial, wd_149, ⟨rfl, wd_484, gm_61, km_61⟩, trivial, trivial, trivial, trivial, trivial, trivial, trivial, trivial, wd_117, trivial, trivial, trivial, wd_130, trivial, trivial, trivial, trivial, trivial, trivial, trivial, wd_130, trivial, trivial, trivial, wd_130, trivial, trivial, trivial, trivial, ⟨rfl, wd_343, gm_43, km_43⟩, trivial, trivial, trivial, trivial, trivial, trivial, trivial, trivial, trivial, trivial, trivial⟩
theorem ck62_0 : cd62_0.all (good 62) = true := by decide +kernel
theorem lk62_1 : allP (LkP 62) cd62_1 := ⟨trivial, wd_149, trivial, ⟨rfl, wd_454, gm_90, km_90⟩, trivial, trivial, trivial, trivial, trivial, trivial, trivial, wd_130, trivial, trivial, trivial, trivial, ⟨rfl, wd_343, gm_43, km_43⟩, wd_485, trivial, trivial, ⟨rfl, wd_343, gm_43, km_43⟩, wd_488, trivial, trivial, trivial, trivial, trivial⟩
theorem ck62_1 : cd62_1.all (good 62) = true := by decide +kernel
theorem lk62 : allP (LkP 62) cd62 := allP_app lk62_0 (lk62_1)
theorem ck62 : cd62.all (good 62) = true := all_app ck62_0 (ck62_1)
theorem lk63 : allP (LkP 63) cd63 := ⟨trivial, wd_193, trivial, trivial, wd_194, ⟨wd_197, ⟨rfl, rfl, rfl⟩⟩, trivial, trivial, ⟨wd_198, trivial⟩, trivial, trivial, trivial, trivial, wd_197, trivial, trivial, trivial, wd_197, trivial, wd_194, trivial, ⟨rfl, Or.inl wd_196, gm_36, km_36⟩, trivial, trivial, trivial, trivial, trivial⟩
theorem ck63 : cd63.all (good 63) = true := by decide +kernel
theorem lk64 : allP (LkP 64) cd64 := ⟨trivial, wd_198, trivial, trivial, wd_198, trivial, wd_197, trivial, trivial, trivial, trivial, wd_197, trivial, wd_198, trivial, ⟨Or.inl wd_303, gm_37, km_37⟩, trivial, trivial⟩
theorem ck64 : cd64.all (good 64) = true := by decide +kernel
theorem lk65 : allP (LkP 65) cd65 := ⟨trivial, ⟨Or.inr wd_319, gm_25, km_25⟩, trivial, trivial, trivial, wd_198, trivial, trivial, ⟨wd_198, trivial⟩, trivial, wd_198, trivial, trivial, trivial, ⟨rfl, wd_323, gm_66, km_66⟩, trivial, trivial, trivial⟩
theorem ck65 : cd65.all (good 65) = true := by decide +kernel
theorem lk66 : allP (LkP 66) cd66 := ⟨trivial, wd_197, trivial, trivial, trivial, trivial, trivial, trivial, trivial, wd_197, trivial, trivial, trivial, wd_197, trivial, trivial, trivial, trivial, wd_197, trivial, trivial, trivial, trivial, trivial, trivial, wd_197, trivial, wd_197, trivial, trivial, trivial, trivial, trivial, trivial, trivial, wd_198, trivial, trivial, ⟨wd_198, trivial⟩, trivial, trivial⟩
theorem ck66 : cd66.all (good 66) = true := by decide +kernel
theorem lk67 : allP (LkP 67) cd67 := ⟨trivial, wd_198, trivial, trivial, trivial, wd_198, trivial, wd_197, trivial, trivial, wd_633, trivial, trivial, trivial, wd_198, trivial, trivial, ⟨wd_198, trivial⟩, trivial, wd_197, trivial, wd_198, trivial, trivial, ⟨Or.inl wd_303, gm_37, km_37⟩, trivial, wd_198, trivial, trivial⟩
theorem ck67 : cd67.all (good 67) = true := by decide +kernel
theorem lk68 : allP (LkP 68) cd68 := ⟨trivial, wd_245, trivial, trivial, trivial, ⟨wd_246, ⟨rfl, rfl, rfl⟩⟩, trivial, trivial, ⟨wd_247, trivial⟩, trivial, trivial, ⟨wd_249, trivial⟩, trivial, trivial, trivial, ⟨wd_250, ⟨rfl, rfl, rfl⟩⟩, trivial, trivial, ⟨wd_251, trivial⟩, trivial, trivial, ⟨wd_252, trivial⟩, trivial, trivial, ⟨wd_254, trivial⟩, trivial, trivial, ⟨wd_256, trivial⟩, trivial, trivial⟩
theorem ck68 : cd68.all (good 68) = true := by decide +kernel
theorem lk69 : allP (LkP 69) cd69 := ⟨trivial, trivial, trivial, ⟨Or.inr wd_642, gm_24, km_24⟩, trivial, wd_643, trivial, trivial, wd_247, trivial, trivial, wd_247, trivial, wd_246, trivial, trivial, wd_644, trivial, trivial, wd_246, trivial, wd_247, trivial, trivial, trivial, trivial, trivial, wd_247, trivial, trivial, ⟨wd_247, trivial⟩, trivial, wd_247, trivial, trivial⟩
theorem ck69 : cd69.all (good 69) = true := by decide +kernel
theorem lk70 : allP (LkP 70) cd70 := ⟨trivial, wd_247, trivial, trivial, trivial, ⟨wd_247, trivial⟩, trivial, trivial, trivial⟩
theorem ck70 : cd70.all (good 70) = true := by decide +kernel
theorem lk71 : allP (LkP 71) cd71 := ⟨trivial, trivial, ⟨wd_252, trivial⟩, trivial, trivial, trivial, trivial, trivial, trivial, wd_247, trivial, trivial, trivial, trivial, trivial, trivial, ⟨rfl, wd_661, gm_74, km_74⟩, trivial, trivial, trivial, trivial, trivial, wd_251, trivial, trivial, ⟨rfl, wd_680, gm_72, km_72⟩, trivial, trivial, trivial, trivial, trivial, ⟨rfl, wd_684, gm_73, km_73⟩, trivial, trivial, ⟨Or.inr wd_693, gm_25, km_25⟩, trivial, trivial, trivial, trivial, trivial, ⟨rfl, wd_680, gm_72, km_72⟩, trivial, trivial, trivial, trivial, wd_251, trivial, trivial, trivial, trivial, trivial⟩
theorem ck71 : cd71.all (good 71) = true := by decide +kernel
theorem lk72 : allP (LkP 72) cd72 := ⟨trivial, trivial, ⟨wd_254, trivial⟩, trivial, trivial, ⟨wd_252, trivial⟩, trivial, trivial, ⟨wd_256, trivial⟩, trivial, trivial⟩
theorem ck72 : cd72.all (good 72) = true := by decide +kernel
theorem lk73 : allP (LkP 73) cd73 := ⟨trivial, wd_249, trivial, trivial, trivial, wd_250, trivial, trivial, trivial, wd_250, trivial, trivial, trivial, wd_250, trivial, trivial, ⟨rfl, wd_688, gm_53, km_53⟩, trivial, trivial, trivial, wd_250, trivial, trivial, trivial, ⟨rfl, wd_689, gm_54, km_54⟩, trivial, trivial, trivial, wd_250, trivial, trivial, trivial, ⟨rfl, wd_689, gm_54, km_54⟩, trivial, trivial, trivial, wd_250, trivial, trivial, ⟨rfl, wd_690, gm_55, km_55⟩, trivial, trivial, trivial, wd_250, trivial, trivial, trivial, wd_250, trivial, trivial, ⟨rfl, wd_691, gm_57, km_57⟩, trivial, trivial, trivial, trivial, wd_250, trivial, trivial, ⟨rfl, wd_692, gm_30, km_30⟩, trivial, trivial⟩
theorem ck73 : cd73.all (good 73) = true := by decide +kernel
theorem lk74 : allP (LkP 74) cd74 := ⟨trivial, trivial, ⟨wd_251, trivial⟩, trivial, trivial, ⟨rfl, wd_665, gm_76, km_76⟩, ⟨wd_249, trivial⟩, trivial, wd_249, ⟨Or.inl wd_669, gm_75, km_75⟩, trivial, trivial, trivial, trivial, trivial, trivial, trivial, wd_251, trivial, trivial, ⟨wd_251, trivial⟩, trivial, trivial, trivial, trivial, trivial, trivial, trivial, trivial, trivial, ⟨rfl, wd_672, gm_77, km_77⟩, trivial, trivial, trivial, trivial, trivial, ⟨rfl, wd_676, gm_78, km_78⟩, trivial, trivial, trivial, trivial, trivial, trivial, trivial, ⟨rfl, wd_672, gm_77, km_77⟩, trivial, trivial⟩
theorem ck74 : cd74.all (good 74) = true := by decide +kernel
theorem lk75 : allP (LkP 75) cd75 := ⟨trivial, trivial, trivial, trivial, trivial, trivial, trivial, trivial, trivial, trivial, trivial⟩
theorem ck75 : cd75.all (good 75) = true := by decide +kernel
theorem lk76 : allP (LkP 76) cd76 := ⟨trivial, wd_251, trivial, trivial, wd_251, trivial, wd_247, trivial, trivial, wd_251, trivial, wd_246, trivial, trivial, trivial, wd_246, trivial, wd_251, trivial, trivial, trivial, trivial, trivial⟩
theorem ck76 : cd76.all (good 76) = true := by decide +kernel
theorem lk77 : allP (LkP 77) cd77 := ⟨trivial, ⟨rfl, wd_665, gm_76, km_76⟩, trivial, trivial, trivial, trivial, trivial, trivial, wd_251, trivial, trivial, ⟨wd_251, trivial⟩, trivial, trivial, trivial⟩
theorem ck77 : cd77.all (good 77) = true := by decide +kernel
theorem lk78 : allP (LkP 78) cd78 := ⟨trivial, trivial, trivial, trivial, trivial, trivial, trivial, trivial, ⟨rfl, wd_665, gm_76, km_76⟩, trivial, trivial, trivial, ⟨rfl, wd_665, gm_76, km_76⟩, trivial, trivial, trivial, trivial, trivial, trivial, ⟨rfl, wd_665, gm_76, km_76⟩, trivial, trivial, trivial, trivial, trivial, trivial, trivial, wd_251, trivial, trivial, ⟨wd_251, trivial⟩, trivial, trivial, trivial, trivial, trivial, wd_250, trivial, trivial, trivial, wd_250, trivial, trivial, trivial, trivial, trivial, trivial, trivial, trivial, trivial, trivial⟩
theorem ck78 : cd78.all (good 78) = true := by decide +kernel
theorem lk79 : allP (LkP 79) cd79 := ⟨trivial, wd_229, trivial, trivial, trivial, ⟨wd_232, ⟨rfl, rfl, rfl⟩⟩, trivial, wd_230, trivial, ⟨rfl, Or.inr wd_231, gm_85, km_85⟩, ⟨wd_233, ⟨rfl, rfl, rfl⟩⟩, trivial, trivial⟩
theorem ck79 : cd79.all (good 79) = true := by decide +kernel
theorem lk80_0 : allP (LkP 80) cd80_0 := ⟨trivial, trivial, ⟨rfl, wd_537, gm_38, km_38⟩, trivial, wd_538, trivial, trivial, trivial, trivial, trivial, wd_232, trivial, trivial, trivial, wd_232, trivial, trivial, trivial, trivial, trivial, wd_539, trivial, trivial, trivial, trivial, trivial, trivial, trivial, wd_111, trivial, trivial, trivial, trivial, trivial, wd_118, trivial, trivial, trivial, trivial, ⟨rfl, wd_540, gm_81, km_81⟩, trivial, trivial, trivial, trivial, trivial, trivial, wd_232, trivial, trivial, trivial, trivial⟩
theorem ck80_0 : cd80_0.all (good 80) = true := by decide +kernel
theorem lk80_1 : allP (LkP 80) cd80_1 := ⟨wd_232, trivial, trivial, wd_539, trivial, trivial, wd_232, trivial, trivial, trivial, wd_538, trivial, trivial⟩
theorem ck80_1 : cd80_1.all (good 80) = true := by decide +kernel
theorem lk80 : allP (LkP 80) cd80 := allP_app lk80_0 (lk80_1)
theorem ck80 : cd80.all (good 80) = true := all_app ck80_0 (ck80_1)
theorem lk81_0 : allP (LkP 81) cd81_0 := ⟨trivial, trivial, ⟨rfl, wd_544, gm_39, km_39⟩, trivial, trivial, trivial, ⟨rfl, wd_545, gm_42, km_42⟩, trivial, trivial, trivial, wd_122, trivial, trivial, trivial, trivial, wd_125, trivial, trivial, trivial, trivial, trivial, trivial, wd_232, trivial, trivial, trivial, ⟨Or.inr wd_546, gm_24, km_24⟩, trivial, trivial, trivial, trivial, wd_232, trivial, trivial, trivial, ⟨Or.inr wd_546, gm_24, km_24⟩, trivial, trivial, wd_232, trivial, trivial, wd_232, trivial, trivial, trivial, wd_232, trivial, trivial, trivial, wd_128, trivial⟩
theorem ck81_0 : cd81_0.all (good 81) = true := by decide +kernel
theorem lk81_1 : allP (LkP 81) cd81_1 := ⟨trivial, trivial, trivial, wd_547, trivial, trivial, wd_232, trivial, trivial, wd_232, trivial, trivial, trivial, wd_232, trivial, trivial, trivial, wd_128, trivial, trivial, trivial, wd_547, trivial, trivial, trivial⟩
theorem ck81_1 : cd81_1.all (good 81) = true := by decide +kernel
theorem lk81 : allP (LkP 81) cd81 := allP_app lk81_0 (lk81_1)
theorem ck81 : cd81.all (good 81) = true := all_app ck81_0 (ck81_1)
theorem lk82 : allP (LkP 82) cd82 := ⟨trivial, wd_233, ⟨rfl, wd_585, gm_86, km_86⟩, trivial, trivial, trivial, trivial, trivial, trivial, wd_233, ⟨rfl, wd_586, gm_89, km_89⟩, trivial, wd_137, trivial, trivial, trivial, ⟨rfl, wd_587, gm_83, km_83⟩, trivial, trivial, trivial, trivial, trivial, trivial, wd_233, trivial, trivial, trivial, trivial, wd_233, ⟨rfl, wd_586, gm_89, km_89⟩, ⟨rfl, wd_591, gm_46, km_46⟩, trivial, trivial, ⟨rfl, wd_596, gm_44, km_44⟩, ⟨rfl, wd_597, gm_87, km_87⟩, trivial, trivial, trivial, trivial⟩
theorem ck82 : cd82.all (good 82) = true := by decide +kernel
theorem lk83 : allP (LkP 83) cd83 := ⟨trivial, wd_233, ⟨rfl, wd_586, gm_89, km_89⟩, trivial, trivial, trivial, trivial, trivial, trivial, trivial, wd_118, trivial, trivial, wd_233, trivial, trivial, trivial, ⟨rfl, wd_591, gm_46, km_46⟩, ⟨rfl, wd_592, gm_92, km_92⟩, trivial, trivial, trivial, trivial, trivial, trivial, trivial, trivial, trivial, ⟨Or.inl wd_593, gm_84, km_84⟩, trivial, trivial, trivial, trivial, trivial, trivial, trivial, trivial⟩
theorem ck83 : cd83.all (good 83) = true := by decide +kernel
theorem lk84 : allP (LkP 84) cd84 := ⟨trivial, trivial, ⟨rfl, wd_544, gm_39, km_39⟩, trivial, trivial, trivial, ⟨rfl, wd_544, gm_39, km_39⟩, trivial, trivial, trivial, trivial, wd_131, trivial, trivial, trivial, wd_131, trivial, trivial, trivial, trivial, wd_131, trivial, trivial, trivial, wd_131, trivial, trivial, trivial, trivial, trivial, trivial, trivial, trivial, wd_128, trivial, trivial, trivial, wd_128, trivial, trivial, trivial, trivial, trivial, trivial, trivial, trivial⟩
theorem ck84 : cd84.all (good 84) = true := by decide +kernel
theorem lk85 : allP (LkP 85) cd85 := ⟨trivial, wd_81, trivial, trivial, trivial, ⟨wd_82, ⟨rfl, rfl, rfl⟩⟩, trivial, trivial, ⟨wd_83, trivial⟩, trivial, trivial, ⟨wd_86, trivial⟩, trivial, trivial, ⟨wd_90, trivial⟩, trivial, trivial, ⟨wd_92, trivial⟩, trivial, trivial⟩
theorem ck85 : cd85.all (good 85) = true := by decide +kernel
theorem lk86 : allP (LkP 86) cd86 := ⟨trivial, trivial, ⟨wd_83, trivial⟩, trivial, trivial, ⟨wd_86, trivial⟩, trivial, trivial, ⟨wd_90, trivial⟩, trivial, trivial, ⟨wd_92, trivial⟩, trivial, trivial⟩
theorem ck86 : cd86.all (good 86) = true := by decide +kernel
theorem lk87 : allP (LkP 87) cd87 := ⟨trivial, wd_83, trivial, trivial, wd_83, trivial, trivial, trivial, wd_82, trivial, trivial, trivial, trivial, trivial, wd_83, trivial, trivial, ⟨wd_83, trivial⟩, trivial, wd_82, trivial, wd_83, trivial, trivial, trivial, trivial, wd_86, trivial, trivial, ⟨wd_86, trivial⟩, trivial, trivial, wd_90, trivial, trivial, trivial, trivial, ⟨wd_90, trivial⟩, trivial, trivial, wd_92, trivial, trivial, trivial, trivial, ⟨wd_92, trivial⟩, trivial, trivial⟩
theorem ck87 : cd87.all (good 87) = true := by decide +kernel
theorem lk88 : allP (LkP 88) cd88 := ⟨trivial, trivial, trivial, trivial, wd_82, trivial, trivial, trivial, wd_82, trivial, trivial, trivial, trivial, trivial, trivial⟩
theorem ck88 : cd88.all (good 88) = true := by decide +kernel
theorem lk89 : allP (LkP 89) cd89 := ⟨trivial, trivial, wd_83, ⟨rfl, wd_409, gm_88, km_88⟩, trivial, trivial⟩
theorem ck89 : cd89.all (good 89) = true := by decide +kernel
theorem lk90 : allP (LkP 90) cd90 := ⟨trivial, wd_90, trivial, ⟨Or.inr wd_425, gm_26, km_26⟩, trivial, trivial⟩
theorem ck90 : cd90.all (good 90) = true := by decide +kernel
theorem lk91 : allP (LkP 91) cd91 := ⟨trivial, wd_92, trivial, ⟨Or.inr wd_425, gm_26, km_26⟩, trivial, trivial⟩
theorem ck91 : cd91.all (good 91) = true := by decide +kernel
theorem lk92 : allP (LkP 92) cd92 := ⟨trivial, trivial, trivial, trivial, wd_92, trivial, ⟨Or.inr wd_425, gm_26, km_26⟩, trivial, trivial, trivial, trivial, trivial, trivial⟩
theorem ck92 : cd92.all (good 92) = true := by decide +kernel
theorem lk93 : allP (LkP 93) cd93 := ⟨trivial, trivial, trivial, trivial, trivial, trivial, wd_82, trivial, wd_82, ⟨Or.inr wd_309, gm_27, km_27⟩, trivial, trivial, wd_83, ⟨wd_83, trivial⟩, trivial, trivial, wd_86, ⟨wd_86, trivial⟩, trivial, trivial, wd_90, ⟨wd_90, trivial⟩, trivial, trivial, wd_92, ⟨wd_92, trivial⟩, trivial, trivial⟩
theorem ck93 : cd93.all (good 93) = true := by decide +kernel
theorem lk94_0 : allP (LkP 94) cd94_0 := ⟨trivial, wd_703, trivial, trivial, trivial, ⟨wd_704, ⟨rfl, rfl, rfl⟩⟩, trivial, trivial, trivial, ⟨wd_705, ⟨rfl, rfl, rfl⟩⟩, trivial, trivial, trivial, ⟨wd_706, ⟨rfl, rfl, rfl⟩⟩, trivial, trivial, trivial, ⟨wd_707, ⟨rfl, rfl, rfl⟩⟩, trivial, trivial, trivial, ⟨wd_709, ⟨rfl, rfl, rfl⟩⟩, trivial, trivial, trivial, ⟨wd_711, ⟨rfl, rfl, rfl⟩⟩, trivial, trivial, trivial, ⟨wd_718, ⟨rfl, rfl, rfl⟩⟩, trivial, trivial, trivial, ⟨wd_719, ⟨rfl, rfl, rfl⟩⟩, trivial, trivial, trivial, ⟨wd_720, ⟨rfl, rfl, rfl⟩⟩, trivial, trivial, trivial, ⟨wd_726, ⟨rfl, rfl, rfl⟩⟩, trivial, wd_704, trivial, trivial, trivial, trivial, wd_704, trivial, trivial⟩
theorem ck94_0 : cd94_0.all (good 94) = true := by decide +kernel
theorem lk94_1 : allP (LkP 94) cd94_1 := ⟨trivial, trivial, trivial, wd_704, trivial, trivial, trivial, trivial, wd_704, trivial, trivial, trivial, trivial, wd_704, trivial, trivial, trivial, trivial, wd_704, trivial, trivial, trivial, trivial, wd_704, trivial, trivial, trivial, trivial, wd_704, trivial, trivial, trivial, trivial, wd_704, trivial, trivial, trivial, trivial, trivial⟩
theorem ck94_1 : cd94_1.all (good 94) = true := by decide +kernel
theorem lk94 : allP (LkP 94) cd94 := allP_app lk94_0 (lk94_1)
theorem ck94 : cd94.all (good 94) = true := all_app ck94_0 (ck94_1)
theorem lk95 : allP (LkP 95) cd95 := ⟨trivial, trivial, trivial, trivial, trivial, trivial, trivial, trivial, trivial, trivial, trivial⟩
theorem ck95 : cd95.all (good 95) = true := by decide +kernel
theorem lk96 : allP (LkP 96) cd96 := ⟨trivial, wd_793, wd_794, ⟨Or.inl wd_795, gm_95, km_95⟩, trivial, trivial⟩
theorem ck96 : cd96.all (good 96) = true := by decide +kernel
theorem lk97 : allP (LkP 97) cd97 := ⟨trivial, trivial, trivial, trivial, trivial, trivial, trivial, trivial, trivial, trivial, trivial, trivial, trivial, trivial, trivial⟩
theorem ck97 : cd97.all (good 97) = true := by decide +kernel
theorem lk98 : allP (LkP 98) cd98 := ⟨trivial, wd_704, trivial, wd_705, ⟨Or.inl wd_783, gm_97, km_97⟩, trivial, trivial⟩
theorem ck98 : cd98.all (good 98) = true := by decide +kernel
theorem lk99_0 : allP (LkP 99) cd99_0 := ⟨trivial, ⟨Or.inl wd_790, gm_96, km_96⟩, trivial, trivial, wd_705, trivial, wd_704, ⟨Or.inl wd_783, gm_97, km_97⟩, trivial, trivial, trivial, wd_708, trivial, trivial, trivial, trivial, trivial, trivial, trivial, trivial, wd_707, trivial, trivial, wd_707, trivial, trivial, trivial, trivial, trivial, trivial, trivial, trivial, trivial, wd_708, trivial, trivial, ⟨wd_708, trivial⟩, trivial, trivial, trivial, trivial, trivial, trivial, wd_707, trivial, trivial, wd_708, trivial, trivial, trivial, trivial⟩
theorem ck99_0 : cd99_0.all (good 99) = true := by decide +kernel
theorem lk99_1 : allP (LkP 99) cd99_1 := ⟨trivial, wd_705, trivial, trivial, trivial, trivial, trivial, trivial, trivial, wd_708, trivial, trivial, ⟨wd_708, trivial⟩, trivial, trivial, trivial⟩
theorem ck99_1 : cd99_1.all (good 99) = true := by decide +kernel
theorem lk99 : allP (LkP 99) cd99 := allP_app lk99_0 (lk99_1)
theorem ck99 : cd99.all (good 99) = true := all_app ck99_0 (ck99_1)
theorem lk100 : allP (LkP 100) cd100 := ⟨trivial, trivial, trivial, wd_704, trivial, trivial, trivial, trivial, ⟨Or.inl wd_795, gm_95, km_95⟩, trivial, trivial⟩
theorem ck100 : cd100.all (good 100) = true := by decide +kernel
theorem lk101 : allP (LkP 101) cd101 := ⟨trivial, trivial, trivial, wd_704, trivial, trivial, trivial, trivial, ⟨Or.inl wd_795, gm_95, km_95⟩, trivial, trivial⟩
theorem ck101 : cd101.all (good 101) = true := by decide +kernel
theorem lk102 : allP (LkP 102) cd102 := ⟨trivial, wd_704, trivial, trivial, trivial, trivial, trivial, trivial, trivial, trivial, trivial, trivial⟩
theorem ck102 : cd102.all (good 102) = true := by decide +kernel
theorem lk103 : allP (LkP 103) cd103 := ⟨trivial, wd_704, trivial, trivial, trivial, trivial, trivial, trivial, trivial, trivial, trivial, trivial, trivial⟩
theorem ck103 : cd103.all (good 103) = true := by decide +kernel
theorem lk104 : allP (LkP 104) cd104 := ⟨trivial, trivial, trivial, ⟨rfl, wd_826, gm_102, km_102⟩, trivial, trivial, trivial, trivial, trivial, trivial⟩
theorem ck104 : cd104.all (good 104) = true := by decide +kernel
theorem lk105 : allP (LkP 105) cd105 := ⟨trivial, trivial, trivial, ⟨rfl, wd_826, gm_102, km_102⟩, trivial, trivial, trivial, trivial, trivial, ⟨rfl, wd_826, gm_102, km_102⟩, trivial, trivial, trivial, trivial, ⟨rfl, wd_826, gm_102, km_102⟩, trivial, trivial, trivial, trivial, trivial, ⟨rfl, wd_826, gm_102, km_102⟩, trivial, trivial, trivial, trivial⟩
theorem ck105 : cd105.all (good 105) = true := by decide +kernel
theorem lk106 : allP (LkP 106) cd106 := ⟨trivial, trivial, trivial, ⟨rfl, wd_826, gm_102, km_102⟩, trivial, trivial, trivial, trivial, trivial, ⟨rfl, wd_826, gm_102, km_102⟩, trivial, trivial, trivial, trivial, trivial⟩
theorem ck106 : cd106.all (good 106) = true := by decide +kernel
theorem lk107 : allP (LkP 107) cd107 := ⟨trivial, trivial, trivial, trivial, trivial, trivial, wd_704, trivial, trivial, trivial, trivial, trivial, trivial, ⟨rfl, wd_835, gm_104, km_104⟩, trivial, trivial, trivial, trivial, trivial, trivial, trivial, trivial, trivial, trivial, trivial⟩
theorem ck107 : cd107.all (good 107) = true := by decide +kernel
theorem lk108 : allP (LkP 108) cd108 := ⟨trivial, trivial, trivial, trivial, trivial, trivial, wd_704, trivial, trivial, trivial, trivial, trivial, trivial, ⟨rfl, wd_835, gm_104, km_104⟩, trivial, trivial, trivial, trivial, ⟨rfl, wd_879, gm_105, km_105⟩, trivial, trivial, trivial, trivial, trivial, trivial, trivial, trivial, trivial, trivial, trivial, trivial⟩
theorem ck108 : cd108.all (good 108) = true := by decide +kernel
theorem lk109 : allP (LkP 109) cd109 := ⟨trivial, trivial, trivial, trivial, trivial, trivial, wd_704, trivial, trivial, trivial, trivial, trivial, trivial, trivial, ⟨rfl, wd_826, gm_102, km_102⟩, trivial, trivial, trivial, trivial, trivial, trivial, trivial⟩
theorem ck109 : cd109.all (good 109) = true := by decide +kernel
theorem lk110_0 : allP (LkP 110) cd110_0 := ⟨trivial, trivial, trivial, trivial, trivial, trivial, wd_711, trivial, trivial, trivial, trivial, trivial, trivial, trivial, trivial, trivial, trivial, trivial, trivial, trivial, wd_704, trivial, trivial, trivial, trivial, trivial, trivial, trivial, wd_704, trivial, trivial, trivial, trivial, trivial, trivial, ⟨rfl, wd_826, gm_102, km_102⟩, trivial, trivial, trivial, trivial, ⟨rfl, wd_826, gm_102, km_102⟩, trivial, trivial, trivial, ⟨rfl, wd_835, gm_104, km_104⟩, trivial, trivial, trivial, trivial, ⟨rfl, wd_826, gm_102, km_102⟩, trivial⟩
theorem ck110_0 : cd110_0.all (good 110) = true := by decide +kernel
theorem lk110_1 : allP (LkP 110) cd110_1 := ⟨trivial, trivial, trivial, trivial, wd_711, trivial, trivial, wd_711, trivial, trivial, trivial, trivial, trivial, wd_711, trivial, trivial, trivial, trivial, wd_711, trivial, trivial, trivial, trivial, trivial, trivial, wd_711, trivial, trivial, trivial, trivial, wd_711, trivial, trivial, wd_711, trivial, trivial, trivial, trivial, trivial, wd_711, trivial, trivial, trivial, trivial, wd_711, trivial, trivial, trivial, trivial, trivial, trivial⟩
theorem ck110_1 : cd110_1.all (good 110) = true := by decide +kernel
theorem lk110_2 : allP (LkP 110) cd110_2 := ⟨trivial, wd_711, trivial, trivial, trivial, trivial, trivial, trivial, trivial, trivial, wd_711, trivial, trivial, trivial, trivial, trivial, wd_711, trivial, trivial, trivial, wd_793, trivial, trivial⟩
theorem ck110_2 : cd110_2.all (good 110) = true := by decide +kernel
theorem lk110 : allP (LkP 110) cd110 := allP_app lk110_0 (allP_app lk110_1 (lk110_2))
theorem ck110 : cd110.all (good 110) = true := all_app ck110_0 (all_app ck110_1 (ck110_2))
theorem lk111 : allP (LkP 111) cd111 := ⟨trivial, trivial, ⟨wd_712, trivial⟩, trivial, trivial, ⟨wd_713, trivial⟩, trivial, trivial, ⟨wd_714, trivial⟩, trivial, trivial, ⟨wd_715, trivial⟩, trivial, trivial, ⟨wd_716, trivial⟩, trivial, trivial, ⟨wd_717, trivial⟩, trivial, wd_718, trivial, trivial, trivial, trivial, trivial⟩
theorem ck111 : cd111.all (good 111) = true := by decide +kernel
theorem lk112 : allP (LkP 112) cd112 := ⟨trivial, trivial, trivial, wd_712, ⟨rfl, wd_879, gm_105, km_105⟩, trivial, trivial, trivial, ⟨rfl, wd_835, gm_104, km_104⟩, trivial, trivial, trivial, trivial, trivial, wd_716, trivial, trivial, trivial, trivial, trivial, trivial, trivial, trivial, trivial, trivial⟩
theorem ck112 : cd112.all (good 112) = true := by decide +kernel
theorem lk113 : allP (LkP 113) cd113 := ⟨trivial, trivial, trivial, trivial, wd_712, ⟨rfl, wd_879, gm_105, km_105⟩, ⟨wd_712, trivial⟩, trivial, trivial, wd_716, trivial, trivial, wd_712, trivial, trivial, ⟨wd_716, trivial⟩, trivial, trivial, wd_715, trivial, trivial, trivial, trivial, ⟨wd_715, trivial⟩, trivial, trivial, wd_713, trivial, trivial, trivial, ⟨rfl, wd_826, gm_102, km_102⟩, trivial, ⟨wd_713, trivial⟩, trivial, trivial, wd_714, trivial, trivial, ⟨wd_714, trivial⟩, trivial, wd_718, trivial, wd_714, trivial, wd_712, trivial, trivial, trivial⟩
theorem ck113 : cd113.all (good 113) = true := by decide +kernel
theorem lk114_0 : allP (LkP 114) cd114_0 := ⟨trivial, trivial, trivial, trivial, trivial, trivial, wd_704, trivial, trivial, trivial, trivial, trivial, trivial, ⟨rfl, wd_875, gm_112, km_112⟩, trivial, trivial, trivial, ⟨rfl, wd_883, gm_106, km_106⟩, trivial, trivial, trivial, trivial, trivial, trivial, trivial, trivial, trivial, trivial, trivial, wd_704, trivial, trivial, trivial, wd_887, trivial, wd_888, trivial, trivial, trivial, wd_704, trivial, trivial, trivial, trivial, trivial, wd_704, trivial, trivial, trivial, trivial, trivial⟩
theorem ck114_0 : cd114_0.all (good 114) = true := by decide +kernel
theorem lk114_1 : allP (LkP 114) cd114_1 := ⟨trivial, trivial, trivial, trivial, trivial, trivial, trivial, wd_704, trivial, trivial, trivial, trivial, trivial, trivial, trivial, trivial, ⟨rfl, wd_875, gm_112, km_112⟩, trivial, trivial, trivial, ⟨rfl, wd_883, gm_106, km_106⟩, trivial, trivial, trivial, trivial, trivial, trivial, trivial, trivial, trivial, trivial, trivial, trivial, trivial, trivial, trivial, trivial, trivial, trivial, trivial⟩
theorem ck114_1 : cd114_1.all (good 114) = true := by decide +kernel
theorem lk114 : allP (LkP 114) cd114 := allP_app lk114_0 (lk114_1)
theorem ck114 : cd114.all (good 114) = true := all_app ck114_0 (ck114_1)
theorem lk115_0 : allP (LkP 115) cd115_0 := ⟨trivial, ⟨rfl, wd_867, gm_111, km_111⟩, trivial, wd_712, trivial, wd_704, trivial, trivial, trivial, trivial, wd_717, trivial, trivial, ⟨rfl, wd_871, gm_114, km_114⟩, trivial, trivial, trivial, trivial, trivial, trivial, trivial, trivial, wd_713, trivial, trivial, trivial, ⟨rfl, wd_826, gm_102, km_102⟩, trivial, trivial, wd_704, trivial, trivial, trivial, trivial, trivial, trivial, ⟨wd_717, trivial⟩, trivial, wd_717, trivial, trivial, trivial, ⟨rfl, wd_889, gm_113, km_113⟩, trivial, trivial, trivial, trivial, trivial, trivial, ⟨rfl, wd_826, gm_102, km_102⟩, trivial⟩
theorem ck115_0 : cd115_0.all (good 115) = true := by decide +kernel
theorem lk115_1 : allP (LkP 115) cd115_1 := ⟨trivial, trivial, ⟨rfl, wd_810, gm_103, km_103⟩, trivial, wd_704, trivial, trivial, trivial, wd_712, trivial, trivial, trivial, trivial, trivial, trivial, trivial, trivial, trivial, trivial, trivial, wd_704, trivial, trivial, trivial, wd_712, trivial, trivial, trivial, trivial, trivial, trivial, trivial, wd_717, trivial, trivial, trivial, trivial, trivial, trivial, trivial, trivial, wd_704, trivial, trivial, trivial, trivial, trivial, trivial, trivial, wd_704, trivial⟩
theorem ck115_1 : cd115_1.all (good 115) = true := by decide +kernel
theorem lk115_2 : allP (LkP 115) cd115_2 := ⟨trivial, trivial, trivial, trivial, wd_717, trivial, trivial, trivial, trivial, trivial, trivial, trivial, wd_704, trivial, trivial, trivial, trivial, wd_717, trivial, trivial, trivial, trivial, trivial, trivial, trivial, trivial, wd_704, trivial, trivial, trivial, trivial, wd_717, trivial, trivial, trivial, trivial, trivial, trivial, trivial, trivial, trivial⟩
theorem ck115_2 : cd115_2.all (good 115) = true := by decide +kernel
theorem lk115 : allP (LkP 115) cd115 := allP_app lk115_0 (allP_app lk115_1 (lk115_2))
theorem ck115 : cd115.all (good 115) = true := all_app ck115_0 (all_app ck115_1 (ck115_2))
theorem lk116 : allP (LkP 116) cd116 := ⟨trivial, trivial, trivial, trivial, wd_704, trivial, trivial, trivial, trivial, trivial, trivial, trivial, trivial, trivial, ⟨rfl, wd_826, gm_102, km_102⟩, trivial, trivial, trivial, trivial, trivial, trivial, trivial, trivial, trivial, trivial, trivial, ⟨rfl, wd_810, gm_103, km_103⟩, trivial, trivial, trivial, trivial⟩
theorem ck116 : cd116.all (good 116) = true := by decide +kernel
theorem lk117 : allP (LkP 117) cd117 := ⟨trivial, wd_704, trivial, trivial, wd_713, trivial, trivial, wd_704, trivial, trivial, wd_714, trivial, trivial, wd_704, trivial, trivial, wd_704, trivial, trivial, trivial, trivial, wd_704, trivial, trivial, wd_715, trivial, trivial, trivial, trivial, trivial, wd_714, trivial, trivial, wd_704, trivial, trivial, trivial, trivial, wd_718, trivial, trivial, trivial, trivial, trivial, trivial, trivial⟩
theorem ck117 : cd117.all (good 117) = true := by decide +kernel
theorem lk118_0 : allP (LkP 118) cd118_0 := ⟨trivial, trivial, trivial, trivial, trivial, trivial, wd_704, trivial, trivial, trivial, trivial, ⟨rfl, wd_863, gm_115, km_115⟩, trivial, wd_717, trivial, trivial, wd_719, trivial, trivial, wd_715, trivial, trivial, wd_720, trivial, trivial, wd_713, trivial, trivial, trivial, wd_704, trivial, trivial, trivial, trivial, wd_713, trivial, wd_704, trivial, trivial, trivial, trivial, ⟨rfl, wd_893, gm_117, km_117⟩, trivial, trivial, trivial, trivial, trivial, trivial, wd_704, trivial, trivial⟩
theorem ck118_0 : cd118_0.all (good 118) = true := by decide +kernel
theorem lk118_1 : allP (LkP 118) cd118_1 := ⟨trivial, trivial, trivial, trivial, trivial, trivial, trivial, trivial, ⟨rfl, wd_826, gm_102, km_102⟩, trivial, trivial, trivial, ⟨rfl, wd_826, gm_102, km_102⟩, trivial, wd_704, trivial, trivial, trivial, trivial, trivial, trivial, ⟨rfl, wd_810, gm_103, km_103⟩, trivial, trivial, trivial, trivial, trivial, trivial, trivial, trivial, trivial, wd_719, trivial, trivial, trivial, wd_704, trivial, trivial, trivial, wd_720, trivial, trivial, trivial, ⟨rfl, wd_897, gm_116, km_116⟩, trivial, trivial, trivial, wd_704, trivial, trivial, trivial⟩
theorem ck118_1 : cd118_1.all (good 118) = true := by decide +kernel
theorem lk118_2 : allP (LkP 118) cd118_2 := ⟨trivial, trivial, trivial, wd_704, trivial, trivial, trivial, wd_704, trivial, trivial, trivial, wd_704, trivial, trivial, trivial, wd_704, trivial, trivial, trivial, trivial, ⟨rfl, wd_897, gm_116, km_116⟩, trivial, trivial, trivial, trivial, wd_704, trivial, trivial, trivial, trivial, trivial, trivial, ⟨rfl, wd_826, gm_102, km_102⟩, trivial, trivial, trivial, trivial, trivial, trivial, wd_704, trivial, trivial, trivial, trivial, wd_704, trivial, trivial, trivial, trivial, trivial, trivial⟩
theorem ck118_2 : cd118_2.all (good 118) = true := by decide +kernel
theorem lk118_3 : allP (LkP 118) cd118_3 := ⟨wd_704, trivial, trivial, trivial, trivial, wd_704, trivial, trivial, trivial, trivial, ⟨rfl, wd_810, gm_103, km_103⟩, trivial, trivial, trivial, wd_704, trivial, trivial, trivial, trivial, trivial, trivial, trivial, trivial⟩
theorem ck118_3 : cd118_3.all (good 118) = true := by decide +kernel
theorem lk118 : allP (LkP 118) cd118 := allP_app lk118_0 (allP_app lk118_1 (allP_app lk118_2 (lk118_3)))
theorem ck118 : cd118.all (good 118) = true := all_app ck118_0 (all_app ck118_1 (all_app ck118_2 (ck118_3)))
theorem lk119 : allP (LkP 119) cd119 := ⟨trivial, trivial, trivial, trivial, trivial, trivial, ⟨rfl, wd_859, gm_118, km_118⟩, trivial, trivial, trivial, trivial⟩
theorem ck119 : cd119.all (good 119) = true := by decide +kernel
theorem lk120_0 : allP (LkP 120) cd120_0 := ⟨trivial, trivial, ⟨rfl, wd_806, gm_100, km_100⟩, trivial, trivial, trivial, ⟨rfl, wd_806, gm_100, km_100⟩, trivial, trivial, trivial, trivial, trivial, trivial, trivial, ⟨Or.inl wd_795, gm_95, km_95⟩, trivial, wd_794, trivial, trivial, wd_704, trivial, trivial, trivial, trivial, wd_778, trivial, trivial, wd_704, trivial, trivial, trivial, trivial, trivial, trivial, trivial, ⟨rfl, wd_810, gm_103, km_103⟩, trivial, trivial, trivial, trivial, ⟨rfl, wd_810, gm_103, km_103⟩, trivial, trivial, trivial, trivial, ⟨rfl, wd_810, gm_103, km_103⟩, trivial, trivial, trivial, trivial, trivial⟩
theorem ck120_0 : cd120_0.all (good 120) = true := by decide +kernel
theorem lk120_1 : allP (LkP 120) cd120_1 := ⟨wd_704, trivial, trivial, ⟨rfl, wd_810, gm_103, km_103⟩, trivial, trivial, trivial, trivial, ⟨rfl, wd_810, gm_103, km_103⟩, trivial, trivial, trivial, trivial, ⟨rfl, wd_810, gm_103, km_103⟩, trivial, wd_704, trivial, trivial, trivial, trivial, trivial, trivial, trivial, trivial, trivial⟩
theorem ck120_1 : cd120_1.all (good 120) = true := by decide +kernel
theorem lk120 : allP (LkP 120) cd120 := allP_app lk120_0 (lk120_1)
theorem ck120 : cd120.all (good 120) = true := all_app ck120_0 (ck120_1)
theorem lk121 : allP (LkP 121) cd121 := ⟨trivial, trivial, ⟨rfl, wd_822, gm_101, km_101⟩, trivial, wd_794, trivial, trivial, trivial, trivial, ⟨rfl, wd_826, gm_102, km_102⟩, trivial, trivial, wd_830, trivial, trivial, trivial, trivial, trivial, ⟨rfl, wd_810, gm_103, km_103⟩, trivial, ⟨rfl, wd_831, gm_107, km_107⟩, trivial, trivial⟩
theorem ck121 : cd121.all (good 121) = true := by decide +kernel
theorem lk122 : allP (LkP 122) cd122 := ⟨trivial, trivial, ⟨rfl, wd_806, gm_100, km_100⟩, trivial, trivial, trivial, wd_794, trivial, trivial, wd_704, trivial, trivial, trivial, trivial, wd_830, trivial, trivial, wd_704, trivial, trivial, trivial, trivial, wd_704, trivial, trivial, trivial, trivial, wd_704, trivial, trivial, trivial, trivial, trivial, trivial⟩
theorem ck122 : cd122.all (good 122) = true := by decide +kernel
theorem lk123 : allP (LkP 123) cd123 := ⟨trivial, trivial, trivial, ⟨Or.inl wd_795, gm_95, km_95⟩, trivial, wd_794, trivial, trivial, wd_704, trivial, trivial, trivial, trivial, wd_830, trivial, trivial, wd_704, trivial, trivial, trivial, trivial, trivial, ⟨rfl, wd_855, gm_119, km_119⟩, trivial, wd_704, trivial, trivial, trivial, trivial, trivial, trivial⟩
theorem ck123 : cd123.all (good 123) = true := by decide +kernel
theorem lk124 : allP (LkP 124) cd124 := ⟨trivial, trivial, trivial, trivial, trivial, ⟨Or.inl wd_795, gm_95, km_95⟩, trivial, trivial, trivial, trivial, ⟨Or.inl wd_795, gm_95, km_95⟩, trivial, trivial, trivial, trivial, ⟨Or.inl wd_795, gm_95, km_95⟩, trivial, trivial, trivial, trivial, ⟨Or.inl wd_795, gm_95, km_95⟩, trivial, trivial, trivial, trivial, ⟨Or.inl wd_795, gm_95, km_95⟩, trivial, trivial, trivial, trivial, ⟨Or.inl wd_795, gm_95, km_95⟩, trivial, trivial, trivial, trivial⟩
theorem ck124 : cd124.all (good 124) = true := by decide +kernel
theorem lk125 : allP (LkP 125) cd125 := ⟨trivial, trivial, ⟨Or.inl wd_917, gm_124, km_124⟩, trivial, wd_794, trivial, trivial, wd_704, trivial, trivial, trivial, trivial, trivial, trivial, wd_704, trivial, trivial, trivial, trivial, trivial, trivial, trivial, trivial⟩
theorem ck125 : cd125.all (good 125) = true := by decide +kernel
theorem lk126 : allP (LkP 126) cd126 := ⟨trivial, wd_704, trivial, trivial, trivial, trivial, wd_778, trivial, trivial, ⟨rfl, wd_779, gm_98, km_98⟩, trivial, wd_704, trivial, trivial, trivial, trivial, trivial, trivial, trivial, trivial, wd_704, trivial, trivial, trivial, trivial, ⟨rfl, wd_786, gm_99, km_99⟩, trivial, trivial⟩
theorem ck126 : cd126.all (good 126) = true := by decide +kernel
theorem lk127 : allP (LkP 127) cd127 := ⟨trivial, ⟨rfl, wd_779, gm_98, km_98⟩, trivial, trivial, trivial, trivial, trivial, ⟨rfl, wd_802, gm_120, km_120⟩, ⟨rfl, wd_786, gm_99, km_99⟩, trivial, trivial⟩
theorem ck127 : cd127.all (good 127) = true := by decide +kernel
theorem lk128 : allP (LkP 128) cd128 := ⟨trivial, ⟨rfl, wd_779, gm_98, km_98⟩, trivial, trivial, trivial, trivial, trivial, trivial, trivial, trivial, ⟨rfl, wd_818, gm_121, km_121⟩, ⟨rfl, wd_786, gm_99, km_99⟩, trivial, trivial⟩
theorem ck128 : cd128.all (good 128) = true := by decide +kernel
theorem lk129 : allP (LkP 129) cd129 := ⟨trivial, ⟨rfl, wd_779, gm_98, km_98⟩, trivial, trivial, trivial, ⟨rfl, wd_843, gm_122, km_122⟩, ⟨rfl, wd_786, gm_99, km_99⟩, trivial, trivial⟩
theorem ck129 : cd129.all (good 129) = true := by decide +kernel
theorem lk130 : allP (LkP 130) cd130 := ⟨trivial, ⟨rfl, wd_779, gm_98, km_98⟩, trivial, trivial, trivial, ⟨rfl, wd_851, gm_123, km_123⟩, ⟨rfl, wd_786, gm_99, km_99⟩, trivial, trivial⟩
theorem ck130 : cd130.all (good 130) = true := by decide +kernel
theorem lk131 : allP (LkP 131) cd131 := ⟨trivial, ⟨rfl, wd_779, gm_98, km_98⟩, trivial, ⟨rfl, wd_905, gm_109, km_109⟩, trivial, trivial, wd_704, trivial, trivial, trivial, trivial, trivial, trivial, trivial, wd_704, trivial, trivial, trivial, trivial, trivial, trivial, trivial, wd_704, trivial, trivial, ⟨rfl, wd_810, gm_103, km_103⟩, trivial, trivial, trivial, trivial, trivial, ⟨rfl, wd_905, gm_109, km_109⟩, trivial, ⟨rfl, wd_786, gm_99, km_99⟩, trivial, trivial⟩
theorem ck131 : cd131.all (good 131) = true := by decide +kernel
theorem lk132 : allP (LkP 132) cd132 := ⟨trivial, ⟨rfl, wd_779, gm_98, km_98⟩, trivial, trivial, trivial, trivial, ⟨rfl, wd_913, gm_125, km_125⟩, ⟨rfl, wd_786, gm_99, km_99⟩, trivial, trivial⟩
theorem ck132 : cd132.all (good 132) = true := by decide +kernel
theorem lk133 : allP (LkP 133) cd133 := ⟨trivial, wd_704, trivial, trivial, trivial, trivial, wd_704, trivial, trivial, trivial, trivial, trivial, trivial, trivial, trivial, trivial, trivial⟩
theorem ck133 : cd133.all (good 133) = true := by decide +kernel
theorem lk134 : allP (LkP 134) cd134 := ⟨trivial, trivial, ⟨rfl, wd_822, gm_101, km_101⟩, trivial, wd_794, trivial, trivial, trivial, trivial, trivial, trivial, ⟨rfl, wd_826, gm_102, km_102⟩, trivial, trivial, trivial, ⟨rfl, wd_883, gm_106, km_106⟩, trivial, trivial, trivial, trivial, ⟨rfl, wd_826, gm_102, km_102⟩, trivial, trivial, trivial, ⟨rfl, wd_924, gm_133, km_133⟩, trivial, wd_794, trivial, trivial⟩
theorem ck134 : cd134.all (good 134) = true := by decide +kernel
theorem lk135 : allP (LkP 135) cd135 := ⟨trivial, trivial, trivial, trivial, trivial, trivial, wd_704, trivial, trivial, trivial, trivial, wd_704, trivial, trivial, trivial, trivial, wd_704, trivial, trivial, trivial, trivial, trivial, trivial, trivial, trivial, trivial, trivial, trivial, trivial, trivial, trivial, trivial⟩
theorem ck135 : cd135.all (good 135) = true := by decide +kernel
theorem lk136 : allP (LkP 136) cd136 := ⟨trivial, trivial, ⟨rfl, wd_806, gm_100, km_100⟩, trivial, wd_794, trivial, trivial, trivial, trivial, trivial, ⟨rfl, wd_932, gm_108, km_108⟩, trivial, trivial, wd_704, trivial, trivial, trivial, trivial, trivial, trivial, trivial, trivial, trivial, trivial, trivial, trivial, trivial, ⟨rfl, wd_936, gm_110, km_110⟩, trivial, trivial, trivial, ⟨rfl, wd_940, gm_135, km_135⟩, trivial, wd_794, trivial, trivial⟩
theorem ck136 : cd136.all (good 136) = true := by decide +kernel
theorem lk137 : allP (LkP 137) cd137 := ⟨trivial, trivial, trivial, ⟨Or.inl wd_795, gm_95, km_95⟩, trivial, wd_794, trivial, trivial, wd_704, trivial, trivial, trivial, wd_793, trivial, trivial, wd_704, trivial, trivial, trivial, trivial, trivial, trivial⟩
theorem ck137 : cd137.all (good 137) = true := by decide +kernel
theorem lk138 : allP (LkP 138) cd138 := ⟨trivial, trivial, wd_794, trivial, trivial, wd_704, trivial, trivial, trivial, trivial, trivial, wd_704, trivial, trivial, trivial, trivial, wd_704, trivial, trivial, trivial, trivial, trivial, wd_793, trivial, trivial⟩
theorem ck138 : cd138.all (good 138) = true := by decide +kernel
theorem lk139_0 : allP (LkP 139) cd139_0 := ⟨trivial, trivial, ⟨rfl, wd_806, gm_100, km_100⟩, trivial, trivial, trivial, ⟨rfl, wd_822, gm_101, km_101⟩, trivial, wd_794, trivial, trivial, trivial, trivial, ⟨rfl, wd_879, gm_105, km_105⟩, trivial, trivial, trivial, trivial, ⟨rfl, wd_835, gm_104, km_104⟩, trivial, wd_793, trivial, trivial, trivial, trivial, trivial, trivial, trivial, wd_704, trivial, trivial, trivial, trivial, trivial, trivial, ⟨rfl, wd_835, gm_104, km_104⟩, trivial, trivial, trivial, trivial, ⟨rfl, wd_879, gm_105, km_105⟩, trivial, trivial, trivial, trivial, ⟨rfl, wd_883, gm_106, km_106⟩, trivial, trivial, trivial, trivial, trivial⟩
theorem ck139_0 : cd139_0.all (good 139) = true := by decide +kernel
theorem lk139_1 : allP (LkP 139) cd139_1 := ⟨trivial, trivial, trivial, trivial, ⟨rfl, wd_883, gm_106, km_106⟩, trivial, trivial, trivial, trivial, ⟨Or.inl wd_956, gm_161, km_161⟩, trivial, trivial⟩
theorem ck139_1 : cd139_1.all (good 139) = true := by decide +kernel
theorem lk139 : allP (LkP 139) cd139 := allP_app lk139_0 (lk139_1)
theorem ck139 : cd139.all (good 139) = true := all_app ck139_0 (ck139_1)
theorem lk140 : allP (LkP 140) cd140 := ⟨trivial, trivial, trivial, ⟨rfl, wd_826, gm_102, km_102⟩, trivial, trivial, trivial, ⟨rfl, wd_826, gm_102, km_102⟩, trivial, trivial, trivial, trivial, trivial, trivial, trivial, trivial, trivial, ⟨rfl, wd_826, gm_102, km_102⟩, trivial, trivial, trivial, ⟨rfl, wd_826, gm_102, km_102⟩, trivial, trivial, trivial, trivial, trivial, trivial⟩
theorem ck140 : cd140.all (good 140) = true := by decide +kernel
theorem lk141 : allP (LkP 141) cd141 := ⟨trivial, trivial, trivial, trivial, trivial, trivial, wd_704, trivial, trivial, trivial, trivial, trivial, ⟨rfl, wd_875, gm_112, km_112⟩, trivial, trivial, trivial, trivial, trivial, trivial, trivial, ⟨rfl, wd_974, gm_140, km_140⟩, trivial, trivial, trivial, trivial, trivial, trivial, trivial, trivial, trivial, trivial, trivial, trivial, trivial, trivial, trivial, trivial⟩
theorem ck141 : cd141.all (good 141) = true := by decide +kernel
theorem lk142_0 : allP (LkP 142) cd142_0 := ⟨trivial, trivial, trivial, ⟨Or.inl wd_795, gm_95, km_95⟩, trivial, wd_794, trivial, trivial, wd_704, trivial, trivial, trivial, trivial, wd_830, trivial, trivial, ⟨rfl, wd_867, gm_111, km_111⟩, trivial, trivial, trivial, trivial, trivial, wd_712, trivial, wd_704, trivial, trivial, trivial, trivial, ⟨rfl, wd_970, gm_141, km_141⟩, trivial, trivial, trivial, trivial, trivial, trivial, trivial, trivial, trivial, trivial, trivial, trivial, ⟨rfl, wd_889, gm_113, km_113⟩, trivial, trivial, trivial, trivial, wd_713, trivial, trivial, trivial⟩
theorem ck142_0 : cd142_0.all (good 142) = true := by decide +kernel
theorem lk142_1 : allP (LkP 142) cd142_1 := ⟨trivial, trivial, trivial, wd_714, trivial, trivial, trivial, trivial, trivial, wd_712, trivial, trivial, wd_712, trivial, wd_704, trivial, trivial, trivial, trivial, trivial, trivial, trivial, trivial⟩
theorem ck142_1 : cd142_1.all (good 142) = true := by decide +kernel
theorem lk142 : allP (LkP 142) cd142 := allP_app lk142_0 (lk142_1)
theorem ck142 : cd142.all (good 142) = true := all_app ck142_0 (ck142_1)
theorem lk143 : allP (LkP 143) cd143 := ⟨trivial, wd_704, trivial, trivial, trivial, wd_793, trivial, trivial, trivial, wd_704, trivial, trivial, ⟨rfl, wd_936, gm_110, km_110⟩, trivial, trivial, wd_793, trivial, wd_793, trivial, trivial, wd_704, trivial, trivial, trivial, trivial, trivial, trivial⟩
theorem ck143 : cd143.all (good 143) = true := by decide +kernel
theorem lk144 : allP (LkP 144) cd144 := ⟨trivial, trivial, trivial, ⟨Or.inl wd_795, gm_95, km_95⟩, trivial, wd_794, trivial, trivial, wd_704, trivial, trivial, trivial, trivial, wd_830, trivial, trivial, wd_704, trivial, wd_706, ⟨Or.inl wd_783, gm_97, km_97⟩, trivial, ⟨rfl, wd_863, gm_115, km_115⟩, trivial, wd_706, trivial, wd_704, ⟨Or.inl wd_783, gm_97, km_97⟩, trivial, trivial, trivial, wd_717, trivial, trivial, trivial, trivial, trivial, wd_713, trivial, trivial, wd_712, trivial, trivial⟩
theorem ck144 : cd144.all (good 144) = true := by decide +kernel
theorem lk145_0 : allP (LkP 145) cd145_0 := ⟨trivial, trivial, trivial, ⟨Or.inl wd_795, gm_95, km_95⟩, trivial, trivial, trivial, trivial, ⟨Or.inl wd_795, gm_95, km_95⟩, trivial, wd_794, trivial, trivial, wd_704, trivial, trivial, trivial, trivial, wd_830, trivial, trivial, wd_704, trivial, wd_706, ⟨Or.inl wd_783, gm_97, km_97⟩, trivial, trivial, ⟨rfl, wd_855, gm_119, km_119⟩, trivial, trivial, trivial, wd_704, trivial, trivial, trivial, wd_706, trivial, trivial, trivial, trivial, trivial, trivial, trivial, trivial, wd_704, trivial, trivial, trivial, wd_706, trivial, trivial⟩
theorem ck145_0 : cd145_0.all (good 145) = true := by decide +kernel
theorem lk145_1 : allP (LkP 145) cd145_1 := ⟨trivial, trivial, trivial, trivial, trivial, trivial, trivial, ⟨rfl, wd_905, gm_109, km_109⟩, trivial, trivial, wd_704, trivial, trivial, trivial, wd_793, trivial, trivial, wd_704, trivial, trivial, trivial, trivial, wd_706, trivial, wd_704, ⟨Or.inl wd_783, gm_97, km_97⟩, trivial, trivial, trivial⟩
theorem ck145_1 : cd145_1.all (good 145) = true := by decide +kernel
theorem lk145 : allP (LkP 145) cd145 := allP_app lk145_0 (lk145_1)
theorem ck145 : cd145.all (good 145) = true := all_app ck145_0 (ck145_1)
theorem lk146 : allP (LkP 146) cd146 := ⟨trivial, trivial, trivial, trivial, trivial, trivial, wd_704, trivial, trivial, trivial, trivial, trivial, trivial, ⟨rfl, wd_826, gm_102, km_102⟩, trivial, trivial, trivial, trivial, trivial, ⟨rfl, wd_826, gm_102, km_102⟩, trivial, trivial, trivial, trivial, trivial, trivial, trivial, trivial⟩
theorem ck146 : cd146.all (good 146) = true := by decide +kernel
theorem lk147 : allP (LkP 147) cd147 := ⟨trivial, trivial, trivial, ⟨Or.inl wd_795, gm_95, km_95⟩, trivial, trivial, wd_704, trivial, trivial, trivial, trivial, trivial, trivial, trivial, trivial, trivial, trivial, wd_704, trivial, trivial, trivial, trivial, ⟨rfl, wd_831, gm_107, km_107⟩, trivial, trivial, wd_704, trivial, trivial, trivial, trivial, trivial, trivial, trivial, trivial, ⟨rfl, wd_905, gm_109, km_109⟩, trivial, trivial, ⟨rfl, wd_994, gm_146, km_146⟩, trivial, trivial, wd_704, trivial, trivial, trivial, trivial, wd_704, trivial, trivial, trivial, trivial, wd_708, trivial, trivial, wd_710, trivial, wd_794, trivial, trivial⟩
theorem ck147 : cd147.all (good 147) = true := by decide +kernel
theorem lk148 : allP (LkP 148) cd148 := ⟨trivial, wd_708, trivial, wd_830, trivial, trivial, trivial, wd_708, trivial, trivial, ⟨wd_708, trivial⟩, trivial, trivial, trivial, trivial, trivial, trivial, wd_704, trivial, trivial, wd_707, trivial, trivial, wd_708, trivial, trivial, trivial, trivial, trivial, trivial, trivial, trivial, wd_708, trivial, trivial⟩
theorem ck148 : cd148.all (good 148) = true := by decide +kernel
theorem lk149 : allP (LkP 149) cd149 := ⟨trivial, trivial, trivial, ⟨Or.inl wd_795, gm_95, km_95⟩, trivial, wd_794, trivial, trivial, wd_710, trivial, trivial, wd_778, trivial, trivial, wd_709, trivial, wd_710, trivial, trivial, trivial, trivial, wd_710, trivial, trivial, ⟨wd_710, trivial⟩, trivial, wd_710, trivial, trivial⟩
theorem ck149 : cd149.all (good 149) = true := by decide +kernel
theorem lk150 : allP (LkP 150) cd150 := ⟨trivial, wd_710, trivial, trivial, trivial, ⟨wd_710, trivial⟩, trivial, trivial, trivial⟩
theorem ck150 : cd150.all (good 150) = true := by decide +kernel
theorem lk151 : allP (LkP 151) cd151 := ⟨trivial, wd_721, trivial, wd_710, trivial, trivial, wd_709, trivial, wd_721, trivial, trivial, trivial, trivial, trivial⟩
theorem ck151 : cd151.all (good 151) = true := by decide +kernel
theorem lk152 : allP (LkP 152) cd152 := ⟨trivial, trivial, wd_725, trivial, trivial, trivial, trivial, trivial, trivial, ⟨wd_725, trivial⟩, trivial, trivial, wd_721, trivial, wd_725, trivial, trivial, trivial, trivial, trivial, ⟨wd_721, trivial⟩, trivial, trivial⟩
theorem ck152 : cd152.all (good 152) = true := by decide +kernel
theorem lk153 : allP (LkP 153) cd153 := ⟨trivial, ⟨rfl, wd_1018, gm_151, km_151⟩, trivial, trivial, trivial, trivial, trivial, ⟨rfl, wd_1018, gm_151, km_151⟩, trivial, trivial, ⟨Or.inl wd_795, gm_95, km_95⟩, ⟨rfl, wd_1029, gm_152, km_152⟩, trivial, trivial, trivial, trivial, trivial, trivial, wd_725, trivial, trivial, ⟨rfl, wd_1018, gm_151, km_151⟩, trivial, trivial, ⟨Or.inl wd_795, gm_95, km_95⟩, trivial, trivial, trivial, trivial, trivial, ⟨rfl, wd_1018, gm_151, km_151⟩, trivial, trivial, trivial, trivial, trivial, trivial, wd_721, trivial, trivial, ⟨wd_721, trivial⟩, trivial, trivial, trivial, trivial, trivial⟩
theorem ck153 : cd153.all (good 153) = true := by decide +kernel
theorem lk154 : allP (LkP 154) cd154 := ⟨trivial, trivial, trivial, trivial, trivial, trivial, trivial, trivial, trivial, trivial, trivial⟩
theorem ck154 : cd154.all (good 154) = true := by decide +kernel
theorem lk155 : allP (LkP 155) cd155 := ⟨trivial, ⟨Or.inl wd_1026, gm_154, km_154⟩, trivial, trivial, trivial, trivial, trivial, trivial, trivial, ⟨rfl, wd_1029, gm_152, km_152⟩, trivial, trivial, trivial, trivial, trivial, trivial, trivial, trivial, trivial, ⟨rfl, wd_1018, gm_151, km_151⟩, trivial, trivial, trivial, trivial, trivial, ⟨rfl, wd_1029, gm_152, km_152⟩, trivial, wd_726, trivial, trivial, ⟨rfl, wd_1033, gm_153, km_153⟩, trivial, trivial, trivial, trivial, trivial, ⟨rfl, wd_1018, gm_151, km_151⟩, trivial, trivial, trivial, trivial, trivial, ⟨rfl, wd_1029, gm_152, km_152⟩, trivial, trivial⟩
theorem ck155 : cd155.all (good 155) = true := by decide +kernel
theorem lk156 : allP (LkP 156) cd156 := ⟨trivial, trivial, trivial, trivial, wd_726, trivial, trivial, trivial, wd_726, trivial, trivial, trivial, wd_726, trivial, trivial, ⟨rfl, wd_802, gm_120, km_120⟩, trivial, trivial, trivial, wd_726, trivial, trivial, trivial, ⟨rfl, wd_818, gm_121, km_121⟩, trivial, trivial, trivial, wd_726, trivial, trivial, trivial, ⟨rfl, wd_818, gm_121, km_121⟩, trivial, trivial, trivial, wd_726, trivial, trivial, ⟨rfl, wd_843, gm_122, km_122⟩, trivial, trivial, trivial, wd_726, trivial, trivial, trivial, wd_726, trivial, trivial, ⟨rfl, wd_913, gm_125, km_125⟩, trivial, trivial, trivial, wd_726, trivial, trivial, ⟨rfl, wd_851, gm_123, km_123⟩, trivial, trivial⟩
theorem ck156 : cd156.all (good 156) = true := by decide +kernel
theorem lk157 : allP (LkP 157) cd157 := ⟨trivial, trivial, ⟨wd_721, trivial⟩, trivial, trivial, ⟨wd_723, trivial⟩, trivial, wd_721, trivial, wd_710, trivial, trivial, trivial, wd_721, ⟨wd_722, trivial⟩, trivial, ⟨rfl, wd_1018, gm_151, km_151⟩, trivial, trivial, trivial, ⟨wd_725, trivial⟩, trivial, trivial, ⟨rfl, wd_1022, gm_155, km_155⟩, trivial, trivial, wd_725, trivial, trivial, trivial, ⟨rfl, wd_1037, gm_156, km_156⟩, trivial, wd_793, ⟨wd_724, trivial⟩, trivial, wd_724, ⟨Or.inl wd_790, gm_96, km_96⟩, trivial, trivial, trivial, trivial, trivial, wd_723, trivial, trivial, ⟨wd_723, trivial⟩, trivial, trivial, trivial, trivial⟩
theorem ck157 : cd157.all (good 157) = true := by decide +kernel
theorem lk158 : allP (LkP 158) cd158 := ⟨trivial, trivial, trivial, ⟨Or.inl wd_795, gm_95, km_95⟩, trivial, wd_794, trivial, trivial, ⟨rfl, wd_779, gm_98, km_98⟩, trivial, ⟨rfl, wd_1014, gm_157, km_157⟩, trivial, trivial, wd_705, trivial, wd_704, ⟨Or.inl wd_783, gm_97, km_97⟩, trivial, trivial, wd_793, trivial, trivial, trivial, trivial, wd_722, trivial, trivial, trivial, trivial, trivial, wd_725, trivial, trivial, trivial, trivial, trivial, trivial, wd_725, trivial, trivial, wd_724, trivial, trivial, wd_721, trivial, wd_722, trivial, trivial, trivial⟩
theorem ck158 : cd158.all (good 158) = true := by decide +kernel
theorem lk159 : allP (LkP 159) cd159 := ⟨trivial, ⟨rfl, wd_779, gm_98, km_98⟩, trivial, trivial, ⟨rfl, wd_1014, gm_157, km_157⟩, trivial, trivial, wd_723, trivial, wd_830, ⟨rfl, wd_786, gm_99, km_99⟩, trivial, trivial⟩
theorem ck159 : cd159.all (good 159) = true := by decide +kernel
theorem lk160 : allP (LkP 160) cd160 := ⟨trivial, trivial, trivial, trivial, trivial, trivial, trivial, trivial, trivial⟩
theorem ck160 : cd160.all (good 160) = true := by decide +kernel
theorem lk161 : allP (LkP 161) cd161 := ⟨trivial, ⟨Or.inl wd_959, gm_160, km_160⟩, trivial, trivial, wd_962, trivial, wd_965, trivial, trivial⟩
theorem ck161 : cd161.all (good 161) = true := by decide +kernel
theorem ck_all : ∀ m, (mC m).all (good m) = true := fun m => match m with
  | 0 => ck0
  | 1 => ck1
  | 2 => ck2
  | 3 => ck3
  | 4 => ck4
  | 5 => ck5
  | 6 => ck6
  | 7 => ck7
  | 8 => ck8
  | 9 => ck9
  | 10 => ck10
  | 11 => ck11
  | 12 => ck12
  | 13 => ck13
  | 14 => ck14
  | 15 => ck15
  | 16 => ck16
  | 17 => ck17
  | 18 => ck18
  | 19 => ck19
  | 20 => ck20
  | 21 => ck21
  | 22 => ck22
  | 23 => ck23
  | 24 => ck24
  | 25 => ck25
  | 26 => ck26
  | 27 => ck27
  | 28 => ck28
  | 29 => ck29
  | 30 => ck30
  | 31 => ck31
  | 32 => ck32
  | 33 => ck33
  | 34 => ck34
  | 35 => ck35
  | 36 => ck36
  | 37 => ck37
  | 38 => ck38
  | 39 => ck39
  | 40 => ck40
  | 41 => ck41
  | 42 => ck42
  | 43 => ck43
  | 44 => ck44
  | 45 => ck45
  | 46 => ck46
  | 47 => ck47
  | 48 => ck48
  | 49 => ck49
  | 50 => ck50
  | 51 => ck51
  | 52 => ck52
  | 53 => ck53
  | 54 => ck54
  | 55 => ck55
  | 56 => ck56
  | 57 => ck57
  | 58 => ck58
  | 59 => ck59
  | 60 => ck60
  | 61 => ck61
  | 62 => ck62
  | 63 => ck63
  | 64 => ck64
  | 65 => ck65
  | 66 => ck66
  | 67 => ck67
  | 68 => ck68
  | 69 => ck69
  | 70 => ck70
  | 71 => ck71
  | 72 => ck72
  | 73 => ck73
  | 74 => ck74
  | 75 => ck75
  | 76 => ck76
  | 77 => ck77
  | 78 => ck78
  | 79 => ck79
  | 80 => ck80
  | 81 => ck81
  | 82 => ck82
  | 83 => ck83
  | 84 => ck84
  | 85 => ck85
  | 86 => ck86
  | 87 => ck87
  | 88 => ck88
  | 89 => ck89
  | 90 => ck90
  | 91 => ck91
  | 92 => ck92
  | 93 => ck93
  | 94 => ck94
  | 95 => ck95
  | 96 => ck96
  | 97 => ck97
  | 98 => ck98
  | 99 => ck99
  | 100 => ck100
  | 101 => ck101
  | 102 => ck102
  | 103 => ck103
  | 104 => ck104
  | 105 => ck105
  | 106 => ck106
  | 107 => ck107
  | 108 => ck108
  | 109 => ck109
  | 110 => ck110
  | 111 => ck111
  | 112 => ck112
  | 113 => ck113
  | 114 => ck114
  | 115 => ck115
  | 116 => ck116
  | 117 => ck117
  | 118 => ck118
  | 119 => ck119
  | 120 => ck120
  | 121 => ck121
  | 122 => ck122
  | 123 => ck123
  | 124 => ck124
  | 125 => ck125
  | 126 => ck126
  | 127 => ck127
  | 128 => ck128
  | 129 => ck129
  | 130 => ck130
  | 131 => ck131
  | 132 => ck132
  | 133 => ck133
  | 134 => ck134
  | 135 => ck135
  | 136 => ck136
  | 137 => ck137
  | 138 => ck138
  | 139 => ck139
  | 140 => ck140
  | 141 => ck141
  | 142 => ck142
  | 143 => ck143
  | 144 => ck144
  | 145 => ck145
  | 146 => ck146
  | 147 => ck147
  | 148 => ck148
  | 149 => ck149
  | 150 => ck150
  | 151 => ck151
  | 152 => ck152
  | 153 => ck153
  | 154 => ck154
  | 155 => ck155
  | 156 => ck156
  | 157 => ck157
  | 158 => ck158
  | 159 => ck159
  | 160 => ck160
  | 161 => ck161
  | _ + 162 => rfl
theorem lk_all : ∀ m, allP (LkP m) (mC m) := fun m => match m with
  | 0 => lk0
  | 1 => lk1
  | 2 => lk2
  | 3 => lk3
  | 4 => lk4
  | 5 => lk5
  | 6 => lk6
  | 7 => lk7
  | 8 => lk8
  | 9 => lk9
  | 10 => lk10
  | 11 => lk11
  | 12 => lk12
  | 13 => lk13
  | 14 => lk14
  | 15 => lk15
  | 16 => lk16
  | 17 => lk17
  | 18 => lk18
  | 19 => lk19
  | 20 => lk20
  | 21 => lk21
  | 22 => lk22
  | 23 => lk23
  | 24 => lk24
  | 25 => lk25
  | 26 => lk26
  | 27 => lk27
  | 28 => lk28
  | 29 => lk29
  | 30 => lk30
  | 31 => lk31
  | 32 => lk32
  | 33 => lk33
  | 34 => lk34
  | 35 => lk35
  | 36 => lk36
  | 37 => lk37
  | 38 => lk38
  | 39 => lk39
  | 40 => lk40
  | 41 => lk41
  | 42 => lk42
  | 43 => lk43
  | 44 => lk44
  | 45 => lk45
  | 46 => lk46
  | 47 => lk47
  | 48 => lk48
  | 49 => lk49
  | 50 => lk50
  | 51 => lk51
  | 52 => lk52
  | 53 => lk53
  | 54 => lk54
  | 55 => lk55
  | 56 => lk56
  | 57 => lk57
  | 58 => lk58
  | 59 => lk59
  | 60 => lk60
  | 61 => lk61
  | 62 => lk62
  | 63 => lk63
  | 64 => lk64
  | 65 => lk65
  | 66 => lk66
  | 67 => lk67
  | 68 => lk68
  | 69 => lk69
  | 70 => lk70
  | 71 => lk71
  | 72 => lk72
  | 73 => lk73
  | 74 => lk74
  | 75 => lk75
  | 76 => lk76
  | 77 => lk77
  | 78 => lk78
  | 79 => lk79
  | 80 => lk80
  | 81 => lk81
  | 82 => lk82
  | 83 => lk83
  | 84 => lk84
  | 85 => lk85
  | 86 => lk86
  | 87 => lk87
  | 88 => lk88
  | 89 => lk89
  | 90 => lk90
  | 91 => lk91
  | 92 => lk92
  | 93 => lk93
  | 94 => lk94
  | 95 => lk95
  | 96 => lk96
  | 97 => lk97
  | 98 => lk98
  | 99 => lk99
  | 100 => lk100
  | 101 => lk101
  | 102 => lk102
  | 103 => lk103
  | 104 => lk104
  | 105 => lk105
  | 106 => lk106
  | 107 => lk107
  | 108 => lk108
  | 109 => lk109
  | 110 => lk110
  | 111 => lk111
  | 112 => lk112
  | 113 => lk113
  | 114 => lk114
  | 115 => lk115
  | 116 => lk116
  | 117 => lk117
  | 118 => lk118
  | 119 => lk119
  | 120 => lk120
  | 121 => lk121
  | 122 => lk122
  | 123 => lk123
  | 124 => lk124
  | 125 => lk125
  | 126 => lk126
  | 127 => lk127
  | 128 => lk128
  | 129 => lk129
  | 130 => lk130
  | 131 => lk131
  | 132 => lk132
  | 133 => lk133
  | 134 => lk134
  | 135 => lk135
  | 136 => lk136
  | 137 => lk137
  | 138 => lk138
  | 139 => lk139
  | 140 => lk140
  | 141 => lk141
  | 142 => lk142
  | 143 => lk143
  | 144 => lk144
  | 145 => lk145
  | 146 => lk146
  | 147 => lk147
  | 148 => lk148
  | 149 => lk149
  | 150 => lk150
  | 151 => lk151
  | 152 => lk152
  | 153 => lk153
  | 154 => lk154
  | 155 => lk155
  | 156 => lk156
  | 157 => lk157
  | 158 => lk158
  | 159 => lk159
  | 160 => lk160
  | 161 => lk161
  | _ + 162 => trivial
theorem fe_mem : ∀ {l : List En} {pc : Nat} {x : Instr × Nat × Nat × Nat × Nat × Nat × Value × List (Int32 × Nat)}, fe l pc = some x → (pc, x) ∈ l
  | [], _, _, h => by simp [fe] at h
  | e :: r, pc, x, h => by
    unfold fe at h
    split at h
    · rename_i he
      cases h
      rw [← he]
      exact List.mem_cons_self
    · exact List.mem_cons_of_mem _ (fe_mem h)
theorem fe_good {m pc : Nat} {x : Instr × Nat × Nat × Nat × Nat × Nat × Value × List (Int32 × Nat)} (h : fe (mC m) pc = some x) : good m (pc, x) = true := List.all_eq_true.mp (ck_all m) _ (fe_mem h)
theorem fe_link {m pc : Nat} {x : Instr × Nat × Nat × Nat × Nat × Nat × Value × List (Int32 × Nat)} (h : fe (mC m) pc = some x) : LkP m (pc, x) := allP_mem (lk_all m) _ (fe_mem h)
end
section
abbrev Lcl := List (Option Value)
abbrev Mem := Nat → Nat → Int32
abbrev Rfs := Nat → Nat → Option Nat
abbrev Sg := Nat × Nat × (Nat → Nat) × (Nat → Nat) × Rfs
def sN (σ : Sg) : Nat := σ.1
def sS (σ : Sg) : Nat := σ.2.1
def sT (σ : Sg) : Nat → Nat := σ.2.2.1
def sL (σ : Sg) : Nat → Nat := σ.2.2.2.1
def sR (σ : Sg) : Rfs := σ.2.2.2.2
def upM {α : Type} (M : Nat → α) (o : Nat) (f : α) : Nat → α := fun b => if b = o then f else M b
def upI (f : Nat → Int32) (k : Nat) (x : Int32) : Nat → Int32 := fun j => if j = k then x else f j
def setR (σ : Sg) (o : Nat) (f : Nat → Option Nat) : Sg := (sN σ, sS σ, sT σ, sL σ, upM (sR σ) o f)
def alloc (σ : Sg) (t len sl : Nat) : Sg := (sN σ + 1, sS σ + sl, upM (sT σ) (sN σ) t, upM (sL σ) (sN σ) len, upM (sR σ) (sN σ) (fun _ => none))
abbrev Nx := Nat × Lcl × List Value × Sg × Mem
abbrev Rs := Nx ⊕ ((Nat × Lcl × List Value) ⊕ Option Value)
def go (pc : Nat) (ls : Lcl) (st : List Value) (σ : Sg) (M : Mem) : Option Rs := some (.inl (pc, ls, st, σ, M))
def pI (st : List Value) (K : Int32 → List Value → Option Rs) : Option Rs := match st with
  | .int x :: r => K x r
  | _ => none
def pR (st : List Value) (K : Nat → List Value → Option Rs) : Option Rs := match st with
  | .ref x :: r => K x r
  | _ => none
def pG (st : List Value) (K : Int64 → List Value → Option Rs) : Option Rs := match st with
  | .long x :: r => K x r
  | _ => none
def pF (st : List Value) (K : UInt32 → List Value → Option Rs) : Option Rs := match st with
  | .float x :: r => K x r
  | _ => none
def pV (st : List Value) (K : Value → List Value → Option Rs) : Option Rs := match st with
  | .int x :: r => K (.int x) r
  | .ref x :: r => K (.ref x) r
  | .null :: r => K .null r
  | .float x :: r => K (.float x) r
  | _ => none
def lget (ls : Lcl) (k : Nat) : Option Value := match ls, k with
  | [], _ => none
  | x :: _, 0 => x
  | _ :: r, k + 1 => lget r k
def lset (ls : Lcl) (k : Nat) (v : Option Value) : Lcl := match ls, k with
  | [], _ => []
  | _ :: r, 0 => v :: r
  | x :: r, k + 1 => x :: lset r k v
def isLong (v : Option Value) : Bool := match v with
  | some (.long _) => true
  | some (.double _) => true
  | _ => false
/-- no wide value stands just ahead of place k -/
def narrowAt (ls : Lcl) (k : Nat) : Bool := match k with
  | 0 => true
  | k + 1 => !isLong (lget ls k)
def ldI (v : Option Value) (K : Int32 → Option Rs) : Option Rs := match v with
  | some (.int x) => K x
  | _ => none
def ldG (v : Option Value) (K : Int64 → Option Rs) : Option Rs := match v with
  | some (.long x) => K x
  | _ => none
def ldF (v : Option Value) (K : UInt32 → Option Rs) : Option Rs := match v with
  | some (.float x) => K x
  | _ => none
def ldA (v : Option Value) (K : Value → Option Rs) : Option Rs := match v with
  | some (.ref x) => K (.ref x)
  | some .null => K .null
  | _ => none
def gd (c : Prop) [Decidable c] (K : Option Rs) : Option Rs := if c then K else none
def st1 (ls : Lcl) (k : Nat) (v : Value) (K : Lcl → Option Rs) : Option Rs :=
  gd (k < ls.length ∧ narrowAt ls k = true) (K (lset ls k (some v)))
def st2 (ls : Lcl) (k : Nat) (v : Value) (K : Lcl → Option Rs) : Option Rs :=
  gd (k + 1 < ls.length ∧ narrowAt ls k = true) (K (lset (lset ls (k + 1) none) k (some v)))
def isI (t : Nat) : Bool := t == 0 || t == 9
def isAr (t : Nat) : Bool := t == 0 || t == 9 || t == 1 || t == 2
def ixI (i : Int32) (n : Nat) (K : Nat → Option Rs) : Option Rs := if i < 0 ∨ n ≤ i.toNatClampNeg then none else K i.toNatClampNeg
def okB (x : Int32) : Bool := x == 0 || x == 1
def okC (x : Int32) : Bool := (x.toUInt32 % 65536).toInt32 == x
def okR (cv : Value) (x : Int32) : Bool := match cv with
  | .int t => if t = 0 then true else if t = 1 then okB x else okC x
  | _ => false
def getF (cv : Value) (R : Option Nat) (x : Int32) : Value := match cv with
  | .null => va_rf R
  | _ => .int x
def popA : Nat → List Value → List Value → Option (List Value × List Value)
  | 0, st, acc => some (acc, st)
  | n + 1, v :: st, acc => popA n st (v :: acc)
  | _ + 1, [], _ => none
def le4 (st : List Value) : Bool := match st with
  | [] => true
  | [_] => true
  | [_, _] => true
  | [_, _, _] => true
  | [_, _, _, _] => true
  | _ => false
def noL (st : List Value) : Bool := match st with
  | [] => true
  | .int _ :: r => noL r
  | .ref _ :: r => noL r
  | .null :: r => noL r
  | .float _ :: r => noL r
  | _ => false
def iniL (args : List Value) (b : Nat) : Lcl := args.map some ++ List.replicate b none
def doCall (σ : Sg) (a b d : Nat) (r : Option (List Value × List Value)) : Option Rs := match r with
  | some (args, rest) => if (le4 rest && noL args) = true then (if d = 0 then some (.inr (.inl (a, iniL args b, rest))) else match args with
      | .ref o :: _ => if sT σ o = d then some (.inr (.inl (a, iniL args b, rest))) else none
      | _ => none) else none
  | none => none
def swT : List (Int32 × Nat) → Nat → Int32 → Nat
  | [], d, _ => d
  | (v, t) :: r, d, x => if x = v then t else swT r d x
def cmp32 (c : ClassFile.Cond) (x y : Int32) : Prop := match c with
  | .eq => x = y
  | .ne => ¬ x = y
  | .lt => x < y
  | .ge => ¬ x < y
  | .gt => y < x
  | .le => ¬ y < x
def jmp (c : Prop) [Decidable c] (t e : Nat) : Nat := if c then t else e
def br32 (c : ClassFile.Cond) (x y : Int32) (t e : Nat) : Nat := match c with
  | .eq => jmp (x = y) t e
  | .ne => jmp (x = y) e t
  | .lt => jmp (x < y) t e
  | .ge => jmp (x < y) e t
  | .gt => jmp (y < x) t e
  | .le => jmp (y < x) e t
def putI (cv : Value) (x : Int32) : Bool := match cv with
  | .int t => if t = 0 then true else okB x
  | _ => false
def putF (cv : Value) (k : Nat) (st : List Value) (npc : Nat) (ls : Lcl) (tag : Nat) (σ : Sg) (M : Mem) : Option Rs := match cv with
  | .null => pR st fun v st => pR st fun o st => gd (sT σ o = tag ∧ ¬ sT σ v = 9) (go npc ls st (setR σ o (upM (sR σ o) k (some v))) M)
  | _ => pI st fun x st => pR st fun o st => gd (sT σ o = tag ∧ putI cv x = true) (go npc ls st σ (upM M o (upI (M o) k x)))
def spec (a : Nat) (npc : Nat) (ls : Lcl) (st : List Value) (σ : Sg) (M : Mem) : Option Rs :=
  if a = 900 then pR st fun _ st => gd (le4 st = true) (go npc ls st σ M)
  else if a = 901 then pI st fun y st => pI st fun x st => gd (le4 st = true) (go npc ls (.int (if x < y then y else x) :: st) σ M)
  else if a = 902 then pI st fun y st => pI st fun x st => gd (le4 st = true) (go npc ls (.int (if y < x then y else x) :: st) σ M)
  else pF st fun x st => gd (le4 st = true) (go npc ls (.int x.toInt32 :: st) σ M)
def nn32 (r : UInt32) : Bool := decide (r &&& 0x7fffffff ≤ 0x7f800000)
def stA (ins : Instr) (npc a b d : Nat) (cv : Value) (sw : List (Int32 × Nat)) (ls : Lcl) (st : List Value) (σ : Sg) (M : Mem) : Option Rs := match ins with
  | .iconst _ => go npc ls (cv :: st) σ M
  | .bipush _ => go npc ls (cv :: st) σ M
  | .sipush _ => go npc ls (cv :: st) σ M
  | .ldc _ => go npc ls (cv :: st) σ M
  | .ldc2_w _ => go npc ls (cv :: st) σ M
  | .fconst _ => go npc ls (cv :: st) σ M
  | .iload k => ldI (lget ls k) fun x => go npc ls (.int x :: st) σ M
  | .iload_n k => ldI (lget ls k.val) fun x => go npc ls (.int x :: st) σ M
  | .aload_n k => ldA (lget ls k.val) fun x => go npc ls (x :: st) σ M
  | .lload_n k => ldG (lget ls k.val) fun x => go npc ls (.long x :: st) σ M
  | .fload_n k => ldF (lget ls k.val) fun x => go npc ls (.float x :: st) σ M
  | .istore k => pI st fun x st => st1 ls k (.int x) fun ls => go npc ls st σ M
  | .istore_n k => pI st fun x st => st1 ls k.val (.int x) fun ls => go npc ls st σ M
  | .astore_n k => pR st fun x st => st1 ls k.val (.ref x) fun ls => go npc ls st σ M
  | .fstore_n k => pF st fun x st => st1 ls k.val (.float x) fun ls => go npc ls st σ M
  | .lstore_n k => pG st fun x st => st2 ls k.val (.long x) fun ls => go npc ls st σ M
  | .iinc k n => ldI (lget ls k) fun x => st1 ls k (.int (x + Int32.ofInt n)) fun ls => go npc ls st σ M
  | .iadd => pI st fun y st => pI st fun x st => go npc ls (.int (x + y) :: st) σ M
  | .isub => pI st fun y st => pI st fun x st => go npc ls (.int (x - y) :: st) σ M
  | .imul => pI st fun y st => pI st fun x st => go npc ls (.int (x * y) :: st) σ M
  | .iand => pI st fun y st => pI st fun x st => go npc ls (.int (x &&& y) :: st) σ M
  | .ior => pI st fun y st => pI st fun x st => go npc ls (.int (x ||| y) :: st) σ M
  | .ishl => pI st fun y st => pI st fun x st => go npc ls (.int (x <<< (y &&& 31)) :: st) σ M
  | .ishr => pI st fun y st => pI st fun x st => go npc ls (.int (x >>> (y &&& 31)) :: st) σ M
  | .idiv => pI st fun y st => pI st fun x st => gd (¬ y = 0) (go npc ls (.int (x / y) :: st) σ M)
  | .irem => pI st fun y st => pI st fun x st => gd (¬ y = 0) (go npc ls (.int (x - x / y * y) :: st) σ M)
  | .lmul => pG st fun y st => pG st fun x st => go npc ls (.long (x * y) :: st) σ M
  | .lrem => pG st fun y st => pG st fun x st => gd (¬ y = 0) (go npc ls (.long (x - x / y * y) :: st) σ M)
  | .i2l => pI st fun x st => go npc ls (.long x.toInt64 :: st) σ M
  | .l2i => pG st fun x st => go npc ls (.int x.toInt32 :: st) σ M
  | .i2c => pI st fun x st => go npc ls (.int (x.toUInt32 % 65536).toInt32 :: st) σ M
  | .i2f => pI st fun x st => go npc ls (.float (FP.i2f x) :: st) σ M
  | .f2i => pF st fun x st => go npc ls (.int (FP.f2i x) :: st) σ M
  | .fmul => pF st fun y st => pF st fun x st => gd (nn32 (FP.fmul x y) = true) (go npc ls (.float (FP.fmul x y) :: st) σ M)
  | .fdiv => pF st fun y st => pF st fun x st => gd (nn32 (FP.fdiv x y) = true) (go npc ls (.float (FP.fdiv x y) :: st) σ M)
  | .fsub => pF st fun y st => pF st fun x st => gd (nn32 (FP.fsub x y) = true) (go npc ls (.float (FP.fsub x y) :: st) σ M)
  | .fcmp op => pF st fun y st => pF st fun x st => go npc ls (.int (Op.cmpValue (FP.fcmp x y) op) :: st) σ M
  | .dup => pV st fun v st => go npc ls (v :: v :: st) σ M
  | .dup2 => pV st fun v st => pV st fun u st => go npc ls (v :: u :: v :: u :: st) σ M
  | .pop => pV st fun _ st => go npc ls st σ M
  | .goto _ => go a ls st σ M
  | .if_icmp c _ => pI st fun y st => pI st fun x st => go (br32 c x y a npc) ls st σ M
  | .ifCond c _ => pI st fun x st => go (br32 c x 0 a npc) ls st σ M
  | .ifnull _ => pR st fun _ st => go npc ls st σ M
  | .ifnonnull _ => pR st fun _ st => go a ls st σ M
  | .tableswitch _ _ _ _ => pI st fun x st => go (swT sw a x) ls st σ M
  | .lookupswitch _ _ => pI st fun x st => go (swT sw a x) ls st σ M
  | .getfield _ => pR st fun o st => gd (sT σ o = a) (go npc ls (getF cv (sR σ o b) (M o b) :: st) σ M)
  | .putfield _ => putF cv b st npc ls a σ M
  | .getstatic _ => go npc ls (.ref a :: st) σ M
  | .arraylength => pR st fun o st => gd (isAr (sT σ o) = true) (go npc ls (.int (nI (sL σ o)) :: st) σ M)
  | .iaload => pI st fun i st => pR st fun o st => gd (isI (sT σ o) = true) (ixI i (sL σ o) fun k => go npc ls (.int (M o k) :: st) σ M)
  | .caload => pI st fun i st => pR st fun o st => gd (sT σ o = 1) (ixI i (sL σ o) fun k => go npc ls (.int (M o k) :: st) σ M)
  | .aaload => pI st fun i st => pR st fun o st => gd (sT σ o = 2) (ixI i (sL σ o) fun k => go npc ls (va_rf (sR σ o k) :: st) σ M)
  | .iastore => pI st fun x st => pI st fun i st => pR st fun o st => gd (sT σ o = 0) (ixI i (sL σ o) fun k => go npc ls st σ (upM M o (upI (M o) k x)))
  | .castore => pI st fun x st => pI st fun i st => pR st fun o st => gd (sT σ o = 1) (ixI i (sL σ o) fun k => go npc ls st σ (upM M o (upI (M o) k (vp_nar .char x))))
  | .aastore => pR st fun v st => pI st fun i st => pR st fun o st => gd (sT σ o = 2 ∧ sT σ v = 11) (ixI i (sL σ o) fun k => go npc ls st (setR σ o (upM (sR σ o) k (some v))) M)
  | .new _ => gd (¬ sT σ (sN σ) = 9) (go npc ls (.ref (sN σ) :: st) (alloc σ a 0 b) (upM M (sN σ) (fun _ => 0)))
  | .newarray t => pI st fun n st => gd (¬ sT σ (sN σ) = 9) (ixI n 100000 fun k => go npc ls (.ref (sN σ) :: st) (alloc σ (if t = .char then 1 else 0) k k) (upM M (sN σ) (fun _ => 0)))
  | .anewarray _ => pI st fun n st => gd (¬ sT σ (sN σ) = 9) (ixI n 100000 fun k => go npc ls (.ref (sN σ) :: st) (alloc σ 2 k k) (upM M (sN σ) (fun _ => 0)))
  | .invokevirtual _ => doCall σ a b d (popA (nOf cv) st [])
  | .invokestatic _ => if a < 900 then doCall σ a b d (popA (nOf cv) st []) else spec a npc ls st σ M
  | .invokespecial _ => if a < 900 then doCall σ a b d (popA (nOf cv) st []) else spec a npc ls st σ M
  | .ireturn => match st with
      | [.int x] => gd (okR cv x = true) (some (.inr (.inr (some (.int x)))))
      | _ => none
  | .return_ => match st with
      | [] => some (.inr (.inr none))
      | _ => none
  | _ => none
def pushR (r : Option Value) (st : List Value) : List Value := match r with
  | some v => v :: st
  | none => st
def exec : Nat → Nat → Nat → Lcl → List Value → Sg → Mem → Option (Option Value × Sg × Mem)
  | 0, _, _, _, _, _, _ => none
  | f + 1, m, pc, ls, st, σ, M => match fe (mC m) pc with
    | none => none
    | some (ins, npc, a, b, d, _, cv, sw) => match stA ins npc a b d cv sw ls st σ M with
      | none => none
      | some (.inl (pc1, ls1, st1, σ1, M1)) => exec f m pc1 ls1 st1 σ1 M1
      | some (.inr (.inl (j, ls1, rest))) => match exec f j 0 ls1 [] σ M with
        | none => none
        | some (r, σ1, M1) => exec f m npc ls (pushR r rest) σ1 M1
      | some (.inr (.inr v)) => some (v, σ, M)
theorem exec_succ {f m pc : Nat} {ls : Lcl} {st : List Value} {σ : Sg} {M : Mem} {x : Option Value × Sg × Mem} (h : exec f m pc ls st σ M = some x) : exec (f + 1) m pc ls st σ M = some x := by
  induction f generalizing m pc ls st σ M x with
  | zero => simp [exec] at h
  | succ f ih =>
    rw [exec] at h ⊢
    split at h
    · exact absurd h (by simp)
    · rename_i ins npc a b d w cv sw he
      split at h
      · exact absurd h (by simp)
      · rename_i pc1 ls1 st1 σ1 M1 hs
        exact ih h
      · rename_i j ls1 rest hs
        split at h
        · exact absurd h (by simp)
        · rename_i r σ1 M1 hc
          rw [ih hc]
          exact ih h
      · rename_i v hs
        exact h
theorem exec_add {f m pc : Nat} {ls : Lcl} {st : List Value} {σ : Sg} {M : Mem} {x : Option Value × Sg × Mem} (h : exec f m pc ls st σ M = some x) (k : Nat) : exec (f + k) m pc ls st σ M = some x := by
  induction k with
  | zero => exact h
  | succ k ih => exact exec_succ ih
theorem exec_le {f g m pc : Nat} {ls : Lcl} {st : List Value} {σ : Sg} {M : Mem} {x : Option Value × Sg × Mem} (h : exec f m pc ls st σ M = some x) (hg : f ≤ g) : exec g m pc ls st σ M = some x := by
  have e := exec_add h (g - f)
  rw [show f + (g - f) = g by omega] at e
  exact e
theorem exec_det {f g m pc : Nat} {ls : Lcl} {st : List Value} {σ : Sg} {M : Mem} {x y : Option Value × Sg × Mem} (h : exec f m pc ls st σ M = some x) (h2 : exec g m pc ls st σ M = some y) : x = y := by
  have a := exec_le h (Nat.le_max_left f g)
  have b := exec_le h2 (Nat.le_max_right f g)
  exact Option.some.inj (a.symm.trans b)
abbrev Po := Option Value → Sg → Mem → Prop
def wp (m pc : Nat) (ls : Lcl) (st : List Value) (σ : Sg) (M : Mem) (Q : Po) : Prop := ∃ (f : Nat) (r : Option Value) (σ1 : Sg) (M1 : Mem), exec f m pc ls st σ M = some (r, σ1, M1) ∧ Q r σ1 M1
def wpR (x : Option Rs) (m npc : Nat) (ls : Lcl) (σ : Sg) (M : Mem) (Q : Po) : Prop := match x with
  | none => False
  | some (.inl (pc1, ls1, st1, σ1, M1)) => wp m pc1 ls1 st1 σ1 M1 Q
  | some (.inr (.inl (j, ls1, rest))) => wp j 0 ls1 [] σ M (fun r σ1 M1 => wp m npc ls (pushR r rest) σ1 M1 Q)
  | some (.inr (.inr v)) => Q v σ M
theorem wp_eq {m pc npc a b d w : Nat} {ins : Instr} {cv : Value} {sw : List (Int32 × Nat)} {l : List En} (hm : mC m = l) (he : fe l pc = some (ins, npc, a, b, d, w, cv, sw)) (ls : Lcl) (st : List Value) (σ : Sg) (M : Mem) (Q : Po) :
    wp m pc ls st σ M Q = wpR (stA ins npc a b d cv sw ls st σ M) m npc ls σ M Q := by
  subst hm
  apply propext
  constructor
  · rintro ⟨f, r, σ1, M1, h, hQ⟩
    cases f with
    | zero => simp [exec] at h
    | succ f =>
      rw [exec, he] at h
      dsimp only at h
      split at h
      · exact absurd h (by simp)
      · rename_i hs
        rw [hs]
        exact ⟨f, r, σ1, M1, h, hQ⟩
      · rename_i hs
        rw [hs]
        split at h
        · exact absurd h (by simp)
        · rename_i r2 σ2 M2 hc
          exact ⟨f, r2, σ2, M2, hc, f, r, σ1, M1, h, hQ⟩
      · rename_i hs
        rw [hs]
        cases h
        exact hQ
  · intro h
    cases hs : stA ins npc a b d cv sw ls st σ M with
    | none => rw [hs] at h; exact h.elim
    | some x =>
      rw [hs] at h
      match x, h, hs with
      | .inl (pc1, ls1, st1, σ1, M1), ⟨f, r, σ2, M2, h1, h2⟩, hs =>
        refine ⟨f + 1, r, σ2, M2, ?_, h2⟩
        rw [exec, he]
        dsimp only
        rw [hs]
        exact h1
      | .inr (.inl (j, ls1, rest)), ⟨f, r, σ2, M2, h1, g, r3, σ3, M3, h3, h4⟩, hs =>
        refine ⟨max f g + 1, r3, σ3, M3, ?_, h4⟩
        rw [exec, he]
        dsimp only
        rw [hs]
        dsimp only
        rw [exec_le h1 (Nat.le_max_left f g)]
        exact exec_le h3 (Nat.le_max_right f g)
      | .inr (.inr v), h, hs =>
        refine ⟨1, v, σ, M, ?_, h⟩
        rw [exec, he]
        dsimp only
        rw [hs]
theorem wp_mono {m pc : Nat} {ls : Lcl} {st : List Value} {σ : Sg} {M : Mem} {Q Q2 : Po} (h : wp m pc ls st σ M Q) (hQ : ∀ r σ1 M1, Q r σ1 M1 → Q2 r σ1 M1) : wp m pc ls st σ M Q2 := by
  obtain ⟨f, r, σ1, M1, h1, h2⟩ := h
  exact ⟨f, r, σ1, M1, h1, hQ _ _ _ h2⟩
/-- a run with a known end, as an equation -/
theorem wp_spec {m pc : Nat} {ls : Lcl} {st : List Value} {σ σ1 : Sg} {M M1 : Mem} {r : Option Value} (h : wp m pc ls st σ M (fun r' σ' M' => r' = r ∧ σ' = σ1 ∧ M' = M1)) (Q : Po) : wp m pc ls st σ M Q = Q r σ1 M1 := by
  obtain ⟨f, r', σ', M', h1, rfl, rfl, rfl⟩ := h
  apply propext
  constructor
  · rintro ⟨g, r2, σ2, M2, h2, h3⟩
    have e := exec_det h1 h2
    cases e
    exact h3
  · intro hQ
    exact ⟨f, _, _, _, h1, hQ⟩
/-- a run whose end is known in words alone -/
theorem wp_ex {m pc : Nat} {ls : Lcl} {st : List Value} {σ : Sg} {M : Mem} {P : Po} (h : wp m pc ls st σ M P) : ∃ (r : Option Value) (σ1 : Sg) (M1 : Mem), P r σ1 M1 ∧ ∀ Q : Po, wp m pc ls st σ M Q = Q r σ1 M1 := by
  obtain ⟨f, r, σ1, M1, h1, h2⟩ := h
  exact ⟨r, σ1, M1, h2, fun Q => wp_spec ⟨f, r, σ1, M1, h1, rfl, rfl, rfl⟩ Q⟩
end
section
def lwG : List Cond := lw_tbl.filter goodWord
theorem lwG_of {w : Cond} (h : w ∈ lw_tbl) (hg : goodWord w = true) : w ∈ lwG := List.mem_filter.mpr ⟨h, hg⟩
theorem lwG_good : ∀ w ∈ lwG, goodWord w = true := fun _ h => (List.mem_filter.mp h).2
def wsM (j : Nat) : List Cond := Cond.code (mY j) (mB j) (mL j) (mR j) :: lwG
theorem gi_wsM {j : Nat} (h : Cond.code (mY j) (mB j) (mL j) (mR j) ∈ lw_tbl) : GoodIn lwG (wsM j) := fun w hw => by
  rcases List.mem_cons.mp hw with rfl | hw
  · exact ⟨lwG_of h rfl, good_of_word rfl⟩
  · exact ⟨hw, good_of_word (lwG_good w hw)⟩
def amap (ad : Nat → Nat) (v : Value) : Value := match v with
  | .ref j => .ref (ad j)
  | v => v
def fldV (ad : Nat → Nat) (R : Option Nat) (x : Int32) (cv : Value) : Value := match cv with
  | .null => va_rf (R.map ad)
  | _ => .int x
abbrev PG := va_G × ClassId × ClassId × ClassId × Nat
def AA (G : PG) : Nat → Prop := fun q => G.2.2.2.2 ≤ q
def tysF (G : PG) : List (ClassId × FieldType) := [(G.2.1, .int), (G.2.2.1, .char), (G.2.2.2.1, .object "AntTrails$Ground")]
def ent (G : PG) (ad : Nat → Nat) (σ : Sg) (M : Mem) (i : Nat) : va_E :=
  if sT σ i = 0 then .inl (G.2.1, sL σ i, .inl (M i)) else if sT σ i = 1 then .inl (G.2.2.1, sL σ i, .inl (M i)) else if sT σ i = 2 then .inl (G.2.2.2.1, sL σ i, .inr (.inr (.inr (.inr (fun j => (sR σ i j).map ad))))) else .inr (sT σ i - 10, (List.range (cF (sT σ i - 10))).map (fun k => fldV ad (sR σ i k) (M i k) (tcv (cY (sT σ i - 10) k))))
def cw (G : PG) (ad : Nat → Nat) (σ : Sg) (M : Mem) : va_W := (List.range (sN σ)).map fun i => (ad i, ent G ad σ M i)
theorem cw_get {G : PG} {ad : Nat → Nat} {σ : Sg} {M : Mem} {i : Nat} (h : i < sN σ) : (cw G ad σ M)[i]? = some (ad i, ent G ad σ M i) := by simp [cw, h]
theorem cw_set {G : PG} {ad : Nat → Nat} {σ σ2 : Sg} {M M2 : Mem} {a : Nat} {E : va_E} (hσ : sN σ2 = sN σ) (he : ent G ad σ2 M2 a = E) (ho : ∀ i, i ≠ a → ent G ad σ2 M2 i = ent G ad σ M i) : cw G ad σ2 M2 = (cw G ad σ M).set a (ad a, E) := by
  apply List.ext_getElem?
  intro i
  rw [List.getElem?_set]
  by_cases hi : i < sN σ
  · rw [cw_get (by omega), cw_get hi]
    by_cases ha : a = i
    · subst ha
      simp [cw, hi, he]
    · rw [if_neg ha, ho i (fun q => ha q.symm)]
  · have h1 : (cw G ad σ2 M2)[i]? = none := by simp [cw, hσ]; omega
    have h2 : (cw G ad σ M)[i]? = none := by simp [cw]; omega
    rw [h1]
    by_cases ha : a = i
    · subst ha
      simp [cw, hi]
    · rw [if_neg ha, h2]
theorem cw_push {G : PG} {ad ad2 : Nat → Nat} {σ σ2 : Sg} {M M2 : Mem} {q : Nat} {E : va_E} (hσ : sN σ2 = sN σ + 1) (hq : ad2 (sN σ) = q) (he : ent G ad2 σ2 M2 (sN σ) = E) (ho : ∀ i, i < sN σ → ad2 i = ad i ∧ ent G ad2 σ2 M2 i = ent G ad σ M i) : cw G ad2 σ2 M2 = cw G ad σ M ++ [(q, E)] := by
  unfold cw
  rw [hσ, List.range_succ, List.map_append]
  congr 1
  · apply List.map_congr_left
    intro i hi
    obtain ⟨h1, h2⟩ := ho i (List.mem_range.mp hi)
    rw [h1, h2]
  · simp [hq, he]
def HP (G : PG) (ad : Nat → Nat) (σ : Sg) (M : Mem) (H : Heap) : Prop := va_P G.1 vwCl (cw G ad σ M) H ∧ va_D (AA G) (cw G ad σ M)
def KU (G : PG) (U : State) : Prop := va_K G.1 vwCl (tysF G) U ∧ (∀ a i b n d h, Cond.fieldLinkNest a i b n d h ∈ lw_tbl → va_Nw (.fieldLinkNest a i b n d h) U) ∧ (∀ a i x h, Cond.methodLinkNest a i x h ∈ lw_tbl → va_Nw (.methodLinkNest a i x h) U) ∧ va_AO "AntTrails$Ground" U
theorem KU.warm {G : PG} {s U : State} (hW : s.WarmedH U.vm) (h : KU G s) : KU G U :=
  ⟨va_K.moved hW.alike h.1, fun _ _ _ _ _ _ hm => va_Nw.warmF hW (h.2.1 _ _ _ _ _ _ hm), fun _ _ _ _ hm => va_Nw.warmM hW (h.2.2.1 _ _ _ _ hm), va_AO.moved hW.alike h.2.2.2⟩
theorem KU.same {G : PG} {u U : State} (hv : u.vm = U.vm) (h : KU G u) : KU G U :=
  ⟨va_K.moved (by rw [hv]; exact Vm.Alike.refl _) h.1, fun _ _ _ _ _ _ hm => va_Nw.same rfl hv (h.2.1 _ _ _ _ _ _ hm), fun _ _ _ _ hm => va_Nw.same rfl hv (h.2.2.1 _ _ _ _ hm), va_AO.moved (by rw [hv]; exact Vm.Alike.refl _) h.2.2.2⟩
def ZU (G : PG) (ad : Nat → Nat) (σ : Sg) (M : Mem) (U : State) (H : Heap) : Prop := (∀ i, sT σ i = 9 → va_T .int (ad i) (sL σ i) (fun j => .int (M i j)) (AA G) U H) ∧ (sT σ 1000 = 9 ∧ va_Z "AntTrails" "AT_FIRST" "[I" (.ref (ad 1000)) (AA G) U H) ∧ (sT σ 1001 = 9 ∧ va_Z "AntTrails" "LEAST" "[I" (.ref (ad 1001)) (AA G) U H) ∧ (sT σ 1002 = 9 ∧ va_Z "AntTrails" "MOST" "[I" (.ref (ad 1002)) (AA G) U H)
theorem ZU.moved {G : PG} {ad : Nat → Nat} {σ : Sg} {M : Mem} {u U : State} {H : Heap} (hvm : u.vm.Alike U.vm) (h : ZU G ad σ M u H) : ZU G ad σ M U H :=
  ⟨fun i hi => (h.1 i hi).moved hvm, ⟨h.2.1.1, h.2.1.2.moved hvm⟩, ⟨h.2.2.1.1, h.2.2.1.2.moved hvm⟩, ⟨h.2.2.2.1, h.2.2.2.2.moved hvm⟩⟩
theorem ZU.kept {G : PG} {ad : Nat → Nat} {σ : Sg} {M : Mem} {U : State} {H H1 : Heap} (h : ZU G ad σ M U H) (hq : ∀ a : Nat, a < H.size → ¬ AA G a → H1[a]? = H[a]?) : ZU G ad σ M U H1 :=
  ⟨fun i hi => (h.1 i hi).kept hq, ⟨h.2.1.1, h.2.1.2.kept hq⟩, ⟨h.2.2.1.1, h.2.2.1.2.kept hq⟩, ⟨h.2.2.2.1, h.2.2.2.2.kept hq⟩⟩
/-- the fixed rows stay what they are -/
theorem ZU.to {G : PG} {ad ad2 : Nat → Nat} {σ σ2 : Sg} {M M2 : Mem} {U : State} {H : Heap} (h : ZU G ad σ M U H) (h9 : ∀ i, sT σ2 i = 9 ↔ sT σ i = 9) (hs : ∀ i, sT σ i = 9 → ad2 i = ad i ∧ sL σ2 i = sL σ i ∧ M2 i = M i) : ZU G ad2 σ2 M2 U H := by
  refine ⟨fun i hi => ?_, ⟨(h9 _).mpr h.2.1.1, ?_⟩, ⟨(h9 _).mpr h.2.2.1.1, ?_⟩, ⟨(h9 _).mpr h.2.2.2.1, ?_⟩⟩
  · obtain ⟨e1, e2, e3⟩ := hs i ((h9 i).mp hi)
    rw [e1, e2, e3]
    exact h.1 i ((h9 i).mp hi)
  · rw [(hs _ h.2.1.1).1]; exact h.2.1.2
  · rw [(hs _ h.2.2.1.1).1]; exact h.2.2.1.2
  · rw [(hs _ h.2.2.2.1).1]; exact h.2.2.2.2
/-- references are to what there is -/
def okA (σ : Sg) (j : Nat) : Prop := j < sN σ ∨ sT σ j = 9
def okV (σ : Sg) (v : Value) : Prop := ∀ j, v = .ref j → okA σ j
def okS (σ : Sg) (st : List Value) : Prop := ∀ v ∈ st, okV σ v
def okL (σ : Sg) (ls : Lcl) : Prop := ∀ k v, lget ls k = some v → okV σ v
def wfS (σ : Sg) : Prop := (∀ i k j, sR σ i k = some j → j < sN σ) ∧ (∀ i, i < sN σ → sT σ i ≠ 9)
def AG (σ : Sg) (ad ad2 : Nat → Nat) : Prop := ∀ j, okA σ j → ad2 j = ad j
theorem AG.rf {σ : Sg} {ad : Nat → Nat} : AG σ ad ad := fun _ _ => rfl
theorem okV_i {σ : Sg} {x : Int32} : okV σ (.int x) := fun _ h => by cases h
theorem okV_n {σ : Sg} : okV σ .null := fun _ h => by cases h
theorem okV_f {σ : Sg} {x : UInt32} : okV σ (.float x) := fun _ h => by cases h
theorem okV_l {σ : Sg} {x : Int64} : okV σ (.long x) := fun _ h => by cases h
theorem okV_r {σ : Sg} {j : Nat} (h : okA σ j) : okV σ (.ref j) := fun _ e => by cases e; exact h
theorem okS_c {σ : Sg} {v : Value} {st : List Value} (h : okV σ v) (h2 : okS σ st) : okS σ (v :: st) := fun w hw => by
  rcases List.mem_cons.mp hw with rfl | hw
  · exact h
  · exact h2 w hw
theorem okS_t {σ : Sg} {v : Value} {st : List Value} (h : okS σ (v :: st)) : okS σ st := fun w hw => h w (List.mem_cons_of_mem _ hw)
theorem okS_h {σ : Sg} {v : Value} {st : List Value} (h : okS σ (v :: st)) : okV σ v := h v List.mem_cons_self
theorem okS_n {σ : Sg} : okS σ [] := fun _ h => absurd h List.not_mem_nil
theorem amap_ag {σ : Sg} {ad ad2 : Nat → Nat} (h : AG σ ad ad2) {v : Value} (hv : okV σ v) : amap ad2 v = amap ad v := by
  cases v with
  | ref j => simp only [amap, h j (hv j rfl)]
  | _ => rfl
theorem amap_agS {σ : Sg} {ad ad2 : Nat → Nat} (h : AG σ ad ad2) {st : List Value} (hv : okS σ st) : st.map (amap ad2) = st.map (amap ad) := List.map_congr_left fun v hm => amap_ag h (hv v hm)
theorem lget_lt : ∀ {ls : Lcl} {k : Nat} {v : Value}, lget ls k = some v → k < ls.length
  | [], _, _, h => by simp [lget] at h
  | _ :: _, 0, _, _ => Nat.succ_pos _
  | _ :: r, k + 1, v, h => Nat.succ_lt_succ (lget_lt (ls := r) (v := v) (by simpa [lget] using h))
theorem lset_len : ∀ {ls : Lcl} {k : Nat} {v : Option Value}, (lset ls k v).length = ls.length
  | [], _, _ => rfl
  | _ :: _, 0, _ => rfl
  | _ :: r, k + 1, v => by simp only [lset, List.length_cons]; rw [lset_len]
theorem lget_lset : ∀ {ls : Lcl} {k j : Nat} {v : Option Value} {w : Value}, lget (lset ls k v) j = some w → (j = k ∧ v = some w) ∨ (j ≠ k ∧ lget ls j = some w)
  | [], _, _, _, _, h => by simp [lset, lget] at h
  | _ :: _, 0, 0, _, _, h => Or.inl ⟨rfl, by simpa [lset, lget] using h⟩
  | _ :: _, 0, j + 1, _, _, h => Or.inr ⟨by omega, by simpa [lset, lget] using h⟩
  | _ :: _, k + 1, 0, _, _, h => Or.inr ⟨by omega, by simpa [lset, lget] using h⟩
  | _ :: r, k + 1, j + 1, v, w, h => by
    rcases lget_lset (ls := r) (k := k) (j := j) (v := v) (w := w) (by simpa [lset, lget] using h) with ⟨h1, h2⟩ | ⟨h1, h2⟩
    · exact Or.inl ⟨by omega, h2⟩
    · exact Or.inr ⟨by omega, by simpa [lget] using h2⟩
def asc (ad : Nat → Nat) (ls : Lcl) : List (Nat × Value) := (List.range ls.length).filterMap fun k => (lget ls k).map fun v => (k, amap ad v)
theorem mem_asc {ad : Nat → Nat} {ls : Lcl} {q : Nat × Value} : q ∈ asc ad ls ↔ ∃ v, lget ls q.1 = some v ∧ q.2 = amap ad v := by
  unfold asc
  rw [List.mem_filterMap]
  constructor
  · rintro ⟨k, hk, h⟩
    obtain ⟨v, h1, h2⟩ := Option.map_eq_some_iff.mp h
    subst h2
    exact ⟨v, h1, rfl⟩
  · rintro ⟨v, h1, h2⟩
    refine ⟨q.1, List.mem_range.mpr (lget_lt h1), ?_⟩
    rw [h1]
    show some (q.1, amap ad v) = some q
    rw [← h2]
theorem lv_mono {lsr : Array Slot} {n : Nat} {a b : List (Nat × Value)} (h : lv_has lsr n a) (hs : ∀ q ∈ b, q ∈ a) : lv_has lsr n b := ⟨h.1, h.2.1, fun q hq => h.2.2 q (hs q hq)⟩
theorem lv_rd {lsr : Array Slot} {n : Nat} {ad : Nat → Nat} {ls : Lcl} (h : lv_has lsr n (asc ad ls)) {k : Nat} {v : Value} (hk : lget ls k = some v) : lsr[k]? = some (.val (amap ad v)) := h.2.2 (k, amap ad v) (mem_asc.mpr ⟨v, hk, rfl⟩)
theorem asc_ag {σ : Sg} {ad ad2 : Nat → Nat} (h : AG σ ad ad2) {ls : Lcl} (hl : okL σ ls) {lsr : Array Slot} {n : Nat} (hv : lv_has lsr n (asc ad ls)) : lv_has lsr n (asc ad2 ls) := lv_mono hv fun q hq => by
  obtain ⟨v, h1, h2⟩ := mem_asc.mp hq
  exact mem_asc.mpr ⟨v, h1, by rw [h2, amap_ag h (hl _ _ h1)]⟩
theorem cat_amap {ad : Nat → Nat} {v : Value} : (amap ad v).category = v.category := by cases v <;> rfl
theorem cat_long {v : Value} (h : isLong (some v) = false) : v.category ≠ 2 := by cases v <;> simp_all [isLong, Value.category]
/-- a store of one place -/
theorem lv_st1 {lsr : Array Slot} {n k : Nat} {ad : Nat → Nat} {ls : Lcl} {x : Value} (hn : narrowAt ls k = true) (h : lv_has lsr n ((k, amap ad x) :: (asc ad ls).filter (fun q => !(q.1 == k) && !(q.1 + 1 == k && q.2.category == 2)))) : lv_has lsr n (asc ad (lset ls k (some x))) := lv_mono h fun q hq => by
  obtain ⟨v, h1, h2⟩ := mem_asc.mp hq
  rcases lget_lset h1 with ⟨e1, e2⟩ | ⟨e1, e2⟩
  · cases e2
    exact List.mem_cons.mpr (Or.inl (by rw [← h2, ← e1]))
  · refine List.mem_cons_of_mem _ (List.mem_filter.mpr ⟨mem_asc.mpr ⟨v, e2, h2⟩, ?_⟩)
    have h3 : ¬ (q.1 + 1 = k ∧ q.2.category = 2) := by
      rintro ⟨a1, a2⟩
      subst a1
      have h4 : isLong (lget ls q.1) = false := by simpa [narrowAt] using hn
      rw [e2] at h4
      rw [h2, cat_amap] at a2
      exact cat_long h4 a2
    simp only [Bool.and_eq_true, Bool.not_eq_true', beq_eq_false_iff_ne, ne_eq, Bool.and_eq_false_imp, beq_iff_eq]
    exact ⟨e1, fun a => fun b => h3 ⟨a, b⟩⟩
theorem lv_st2 {lsr : Array Slot} {n k : Nat} {ad : Nat → Nat} {ls : Lcl} {x : Value} (hn : narrowAt ls k = true) (h : lv_has lsr n ((k, amap ad x) :: (asc ad ls).filter (fun q => !(q.1 == k) && (!(q.1 == k + 1) && !(q.1 + 1 == k && q.2.category == 2))))) : lv_has lsr n (asc ad (lset (lset ls (k + 1) none) k (some x))) := lv_mono h fun q hq => by
  obtain ⟨v, h1, h2⟩ := mem_asc.mp hq
  rcases lget_lset h1 with ⟨e1, e2⟩ | ⟨e1, e2⟩
  · cases e2
    exact List.mem_cons.mpr (Or.inl (by rw [← h2, ← e1]))
  · rcases lget_lset e2 with ⟨f1, f2⟩ | ⟨f1, f2⟩
    · cases f2
    · refine List.mem_cons_of_mem _ (List.mem_filter.mpr ⟨mem_asc.mpr ⟨v, f2, h2⟩, ?_⟩)
      have h3 : ¬ (q.1 + 1 = k ∧ q.2.category = 2) := by
        rintro ⟨a1, a2⟩
        subst a1
        have h4 : isLong (lget ls q.1) = false := by simpa [narrowAt] using hn
        rw [f2] at h4
        rw [h2, cat_amap] at a2
        exact cat_long h4 a2
      simp only [Bool.and_eq_true, Bool.not_eq_true', beq_eq_false_iff_ne, ne_eq, Bool.and_eq_false_imp, beq_iff_eq]
      exact ⟨e1, f1, fun a => fun b => h3 ⟨a, b⟩⟩
theorem okL_set {σ : Sg} {ls : Lcl} {k : Nat} {v : Option Value} (h : okL σ ls) (hv : ∀ w, v = some w → okV σ w) : okL σ (lset ls k v) := fun j w hw => by
  rcases lget_lset hw with ⟨-, e⟩ | ⟨-, e⟩
  · exact hv w e
  · exact h j w e
theorem pI_some {st : List Value} {K : Int32 → List Value → Option Rs} {x : Rs} (h : pI st K = some x) : ∃ y r, st = .int y :: r ∧ K y r = some x := by
  unfold pI at h
  split at h
  · exact ⟨_, _, rfl, h⟩
  · cases h
theorem pR_some {st : List Value} {K : Nat → List Value → Option Rs} {x : Rs} (h : pR st K = some x) : ∃ y r, st = .ref y :: r ∧ K y r = some x := by
  unfold pR at h
  split at h
  · exact ⟨_, _, rfl, h⟩
  · cases h
theorem pG_some {st : List Value} {K : Int64 → List Value → Option Rs} {x : Rs} (h : pG st K = some x) : ∃ y r, st = .long y :: r ∧ K y r = some x := by
  unfold pG at h
  split at h
  · exact ⟨_, _, rfl, h⟩
  · cases h
theorem pF_some {st : List Value} {K : UInt32 → List Value → Option Rs} {x : Rs} (h : pF st K = some x) : ∃ y r, st = .float y :: r ∧ K y r = some x := by
  unfold pF at h
  split at h
  · exact ⟨_, _, rfl, h⟩
  · cases h
theorem pV_some {st : List Value} {K : Value → List Value → Option Rs} {x : Rs} (h : pV st K = some x) : ∃ v r, st = v :: r ∧ v.category = 1 ∧ K v r = some x := by
  unfold pV at h
  split at h
  · exact ⟨_, _, rfl, rfl, h⟩
  · exact ⟨_, _, rfl, rfl, h⟩
  · exact ⟨_, _, rfl, rfl, h⟩
  · exact ⟨_, _, rfl, rfl, h⟩
  · cases h
theorem ldI_some {v : Option Value} {K : Int32 → Option Rs} {x : Rs} (h : ldI v K = some x) : ∃ y, v = some (.int y) ∧ K y = some x := by
  unfold ldI at h
  split at h
  · exact ⟨_, rfl, h⟩
  · cases h
theorem ldG_some {v : Option Value} {K : Int64 → Option Rs} {x : Rs} (h : ldG v K = some x) : ∃ y, v = some (.long y) ∧ K y = some x := by
  unfold ldG at h
  split at h
  · exact ⟨_, rfl, h⟩
  · cases h
theorem ldF_some {v : Option Value} {K : UInt32 → Option Rs} {x : Rs} (h : ldF v K = some x) : ∃ y, v = some (.float y) ∧ K y = some x := by
  unfold ldF at h
  split at h
  · exact ⟨_, rfl, h⟩
  · cases h
theorem ldA_some {v : Option Value} {K : Value → Option Rs} {x : Rs} (h : ldA v K = some x) : (∃ y, v = some (.ref y) ∧ K (.ref y) = some x) ∨ (v = some .null ∧ K .null = some x) := by
  unfold ldA at h
  split at h
  · exact Or.inl ⟨_, rfl, h⟩
  · exact Or.inr ⟨rfl, h⟩
  · cases h
theorem gd_some {c : Prop} [Decidable c] {K : Option Rs} {x : Rs} (h : gd c K = some x) : c ∧ K = some x := by
  unfold gd at h
  split at h
  · rename_i hc
    exact ⟨hc, h⟩
  · cases h
theorem ixI_some {i : Int32} {n : Nat} {K : Nat → Option Rs} {x : Rs} (h : ixI i n K = some x) : vp_in i n ∧ K i.toNatClampNeg = some x := by
  unfold ixI at h
  split at h
  · cases h
  · rename_i hc
    exact ⟨hc, h⟩
theorem le4_cat {ad : Nat → Nat} {st : List Value} (h : le4 st = true) : ((st.map (amap ad)).map fun v => v.category).sum ≤ 8 := by
  have hc : ∀ v : Value, v.category ≤ 2 := fun v => by cases v <;> simp [Value.category]
  unfold le4 at h
  split at h
  · simp
  · rename_i a
    have := hc (amap ad a)
    simp; omega
  · rename_i a b
    have := hc (amap ad a); have := hc (amap ad b)
    simp; omega
  · rename_i a b c
    have := hc (amap ad a); have := hc (amap ad b); have := hc (amap ad c)
    simp; omega
  · rename_i a b c d
    have := hc (amap ad a); have := hc (amap ad b); have := hc (amap ad c); have := hc (amap ad d)
    simp; omega
  · cases h
theorem popA_some : ∀ {n : Nat} {st acc a r : List Value}, popA n st acc = some (a, r) → ∃ q, st = q ++ r ∧ a = q.reverse ++ acc ∧ q.length = n
  | 0, st, acc, a, r, h => by
    simp only [popA, Option.some.injEq, Prod.mk.injEq] at h
    exact ⟨[], by simp [h.2], by simp [h.1], rfl⟩
  | n + 1, [], acc, a, r, h => by simp [popA] at h
  | n + 1, v :: st, acc, a, r, h => by
    rw [popA] at h
    obtain ⟨q, h1, h2, h3⟩ := popA_some h
    exact ⟨v :: q, by rw [h1]; rfl, by rw [h2]; simp, by simp [h3]⟩
end
section
theorem uw_0 : ∀ w ∈ u_ws (cN 0) (cT 0) (cF 0), w ∈ lwG := fun w hw => by
  obtain ⟨k, hk, rfl⟩ := List.mem_map.mp hw
  have hk : k < 3 := List.mem_range.mp hk
  match k, hk with
  | 0, _ => exact lwG_of wd_217 rfl
  | 1, _ => exact lwG_of wd_219 rfl
  | 2, _ => exact lwG_of wd_221 rfl
  | k + 3, hk => exact absurd hk (by omega)
theorem uw_1 : ∀ w ∈ u_ws (cN 1) (cT 1) (cF 1), w ∈ lwG := fun w hw => by
  obtain ⟨k, hk, rfl⟩ := List.mem_map.mp hw
  have hk : k < 17 := List.mem_range.mp hk
  match k, hk with
  | 0, _ => exact lwG_of wd_153 rfl
  | 1, _ => exact lwG_of wd_155 rfl
  | 2, _ => exact lwG_of wd_157 rfl
  | 3, _ => exact lwG_of wd_159 rfl
  | 4, _ => exact lwG_of wd_161 rfl
  | 5, _ => exact lwG_of wd_163 rfl
  | 6, _ => exact lwG_of wd_165 rfl
  | 7, _ => exact lwG_of wd_167 rfl
  | 8, _ => exact lwG_of wd_169 rfl
  | 9, _ => exact lwG_of wd_171 rfl
  | 10, _ => exact lwG_of wd_173 rfl
  | 11, _ => exact lwG_of wd_175 rfl
  | 12, _ => exact lwG_of wd_177 rfl
  | 13, _ => exact lwG_of wd_179 rfl
  | 14, _ => exact lwG_of wd_181 rfl
  | 15, _ => exact lwG_of wd_183 rfl
  | 16, _ => exact lwG_of wd_185 rfl
  | k + 17, hk => exact absurd hk (by omega)
theorem uw_2 : ∀ w ∈ u_ws (cN 2) (cT 2) (cF 2), w ∈ lwG := fun w hw => by
  obtain ⟨k, hk, rfl⟩ := List.mem_map.mp hw
  have hk : k < 2 := List.mem_range.mp hk
  match k, hk with
  | 0, _ => exact lwG_of wd_200 rfl
  | 1, _ => exact lwG_of wd_202 rfl
  | k + 2, hk => exact absurd hk (by omega)
theorem uw_3 : ∀ w ∈ u_ws (cN 3) (cT 3) (cF 3), w ∈ lwG := fun w hw => by
  obtain ⟨k, hk, rfl⟩ := List.mem_map.mp hw
  have hk : k < 8 := List.mem_range.mp hk
  match k, hk with
  | 0, _ => exact lwG_of wd_258 rfl
  | 1, _ => exact lwG_of wd_260 rfl
  | 2, _ => exact lwG_of wd_262 rfl
  | 3, _ => exact lwG_of wd_264 rfl
  | 4, _ => exact lwG_of wd_266 rfl
  | 5, _ => exact lwG_of wd_268 rfl
  | 6, _ => exact lwG_of wd_270 rfl
  | 7, _ => exact lwG_of wd_272 rfl
  | k + 8, hk => exact absurd hk (by omega)
theorem uw_4 : ∀ w ∈ u_ws (cN 4) (cT 4) (cF 4), w ∈ lwG := fun w hw => by
  obtain ⟨k, hk, rfl⟩ := List.mem_map.mp hw
  have hk : k < 2 := List.mem_range.mp hk
  match k, hk with
  | 0, _ => exact lwG_of wd_235 rfl
  | 1, _ => exact lwG_of wd_237 rfl
  | k + 2, hk => exact absurd hk (by omega)
theorem uw_5 : ∀ w ∈ u_ws (cN 5) (cT 5) (cF 5), w ∈ lwG := fun w hw => by
  obtain ⟨k, hk, rfl⟩ := List.mem_map.mp hw
  have hk : k < 5 := List.mem_range.mp hk
  match k, hk with
  | 0, _ => exact lwG_of wd_93 rfl
  | 1, _ => exact lwG_of wd_95 rfl
  | 2, _ => exact lwG_of wd_97 rfl
  | 3, _ => exact lwG_of wd_99 rfl
  | 4, _ => exact lwG_of wd_101 rfl
  | k + 5, hk => exact absurd hk (by omega)
theorem uw_6 : ∀ w ∈ u_ws (cN 6) (cT 6) (cF 6), w ∈ lwG := fun w hw => by
  obtain ⟨k, hk, rfl⟩ := List.mem_map.mp hw
  have hk : k < 6 := List.mem_range.mp hk
  match k, hk with
  | 0, _ => exact lwG_of wd_282 rfl
  | 1, _ => exact lwG_of wd_284 rfl
  | 2, _ => exact lwG_of wd_286 rfl
  | 3, _ => exact lwG_of wd_288 rfl
  | 4, _ => exact lwG_of wd_290 rfl
  | 5, _ => exact lwG_of wd_292 rfl
  | k + 6, hk => exact absurd hk (by omega)
theorem uw_7 : ∀ w ∈ u_ws (cN 7) (cT 7) (cF 7), w ∈ lwG := fun w hw => by
  obtain ⟨k, hk, rfl⟩ := List.mem_map.mp hw
  have hk : k < 23 := List.mem_range.mp hk
  match k, hk with
  | 0, _ => exact lwG_of wd_727 rfl
  | 1, _ => exact lwG_of wd_729 rfl
  | 2, _ => exact lwG_of wd_731 rfl
  | 3, _ => exact lwG_of wd_733 rfl
  | 4, _ => exact lwG_of wd_735 rfl
  | 5, _ => exact lwG_of wd_737 rfl
  | 6, _ => exact lwG_of wd_739 rfl
  | 7, _ => exact lwG_of wd_741 rfl
  | 8, _ => exact lwG_of wd_743 rfl
  | 9, _ => exact lwG_of wd_745 rfl
  | 10, _ => exact lwG_of wd_747 rfl
  | 11, _ => exact lwG_of wd_749 rfl
  | 12, _ => exact lwG_of wd_751 rfl
  | 13, _ => exact lwG_of wd_753 rfl
  | 14, _ => exact lwG_of wd_755 rfl
  | 15, _ => exact lwG_of wd_757 rfl
  | 16, _ => exact lwG_of wd_759 rfl
  | 17, _ => exact lwG_of wd_761 rfl
  | 18, _ => exact lwG_of wd_763 rfl
  | 19, _ => exact lwG_of wd_765 rfl
  | 20, _ => exact lwG_of wd_767 rfl
  | 21, _ => exact lwG_of wd_769 rfl
  | 22, _ => exact lwG_of wd_771 rfl
  | k + 23, hk => exact absurd hk (by omega)
theorem uw_ok : ∀ c, c < 8 → ∀ w ∈ u_ws (cN c) (cT c) (cF c), w ∈ lwG := fun c hc => by
  match c, hc with
  | 0, _ => exact uw_0
  | 1, _ => exact uw_1
  | 2, _ => exact uw_2
  | 3, _ => exact uw_3
  | 4, _ => exact uw_4
  | 5, _ => exact uw_5
  | 6, _ => exact uw_6
  | 7, _ => exact uw_7
  | c + 8, hc => exact absurd hc (by omega)
theorem vw_ok : ∀ c, c < 8 → vwCl[c]? = some (cN c, cT c, cF c) := fun c hc => by
  match c, hc with
  | 0, _ => exact rfl
  | 1, _ => exact rfl
  | 2, _ => exact rfl
  | 3, _ => exact rfl
  | 4, _ => exact rfl
  | 5, _ => exact rfl
  | 6, _ => exact rfl
  | 7, _ => exact rfl
  | c + 8, hc => exact absurd hc (by omega)
theorem ty_ok : ∀ c, c < 8 → ∀ k, k < cF c → parseFieldDescriptor (cT c k).2.2.1 = some (cY c k) := fun c hc => by
  match c, hc with
  | 0, _ => exact tyX0_ok
  | 1, _ => exact tyX1_ok
  | 2, _ => exact tyX2_ok
  | 3, _ => exact tyX3_ok
  | 4, _ => exact tyX4_ok
  | 5, _ => exact tyX5_ok
  | 6, _ => exact tyX6_ok
  | 7, _ => exact tyX7_ok
  | c + 8, hc => exact absurd hc (by omega)
theorem nm_ok : ∀ c, c < 8 → ∀ a, a < cF c → ∀ b, b < cF c → a ≠ b → (cT c a).2.1 ≠ (cT c b).2.1 := fun c hc => by
  match c, hc with
  | 0, _ => exact nmX0
  | 1, _ => exact nmX1
  | 2, _ => exact nmX2
  | 3, _ => exact nmX3
  | 4, _ => exact nmX4
  | 5, _ => exact nmX5
  | 6, _ => exact nmX6
  | 7, _ => exact nmX7
  | c + 8, hc => exact absurd hc (by omega)
theorem in_ok : ∀ c, c < 8 → Cond.instantiable (cN c) (cF c) ∈ lw_tbl := fun c hc => by
  match c, hc with
  | 0, _ => exact wd_206
  | 1, _ => exact wd_71
  | 2, _ => exact wd_189
  | 3, _ => exact wd_241
  | 4, _ => exact wd_225
  | 5, _ => exact wd_77
  | 6, _ => exact wd_63
  | 7, _ => exact wd_699
  | c + 8, hc => exact absurd hc (by omega)
theorem it_ok : ∀ c, c < 8 → Cond.initialized (cN c) ∈ lw_tbl := fun c hc => by
  match c, hc with
  | 0, _ => exact wd_56
  | 1, _ => exact wd_53
  | 2, _ => exact wd_55
  | 3, _ => exact wd_58
  | 4, _ => exact wd_57
  | 5, _ => exact wd_54
  | 6, _ => exact wd_52
  | 7, _ => exact wd_59
  | c + 8, hc => exact absurd hc (by omega)
theorem dv_0 (ad : Nat → Nat) : ∀ k, k < cF 0 → defaultValue (cY 0 k) = fldV ad none 0 (tcv (cY 0 k)) := fun k hk => by
  have hk : k < 3 := hk
  match k, hk with
  | 0, _ => rfl
  | 1, _ => rfl
  | 2, _ => rfl
  | k + 3, hk => exact absurd hk (by omega)
theorem dv_1 (ad : Nat → Nat) : ∀ k, k < cF 1 → defaultValue (cY 1 k) = fldV ad none 0 (tcv (cY 1 k)) := fun k hk => by
  have hk : k < 17 := hk
  match k, hk with
  | 0, _ => rfl
  | 1, _ => rfl
  | 2, _ => rfl
  | 3, _ => rfl
  | 4, _ => rfl
  | 5, _ => rfl
  | 6, _ => rfl
  | 7, _ => rfl
  | 8, _ => rfl
  | 9, _ => rfl
  | 10, _ => rfl
  | 11, _ => rfl
  | 12, _ => rfl
  | 13, _ => rfl
  | 14, _ => rfl
  | 15, _ => rfl
  | 16, _ => rfl
  | k + 17, hk => exact absurd hk (by omega)
theorem dv_2 (ad : Nat → Nat) : ∀ k, k < cF 2 → defaultValue (cY 2 k) = fldV ad none 0 (tcv (cY 2 k)) := fun k hk => by
  have hk : k < 2 := hk
  match k, hk with
  | 0, _ => rfl
  | 1, _ => rfl
  | k + 2, hk => exact absurd hk (by omega)
theorem dv_3 (ad : Nat → Nat) : ∀ k, k < cF 3 → defaultValue (cY 3 k) = fldV ad none 0 (tcv (cY 3 k)) := fun k hk => by
  have hk : k < 8 := hk
  match k, hk with
  | 0, _ => rfl
  | 1, _ => rfl
  | 2, _ => rfl
  | 3, _ => rfl
  | 4, _ => rfl
  | 5, _ => rfl
  | 6, _ => rfl
  | 7, _ => rfl
  | k + 8, hk => exact absurd hk (by omega)
theorem dv_4 (ad : Nat → Nat) : ∀ k, k < cF 4 → defaultValue (cY 4 k) = fldV ad none 0 (tcv (cY 4 k)) := fun k hk => by
  have hk : k < 2 := hk
  match k, hk with
  | 0, _ => rfl
  | 1, _ => rfl
  | k + 2, hk => exact absurd hk (by omega)
theorem dv_5 (ad : Nat → Nat) : ∀ k, k < cF 5 → defaultValue (cY 5 k) = fldV ad none 0 (tcv (cY 5 k)) := fun k hk => by
  have hk : k < 5 := hk
  match k, hk with
  | 0, _ => rfl
  | 1, _ => rfl
  | 2, _ => rfl
  | 3, _ => rfl
  | 4, _ => rfl
  | k + 5, hk => exact absurd hk (by omega)
theorem dv_6 (ad : Nat → Nat) : ∀ k, k < cF 6 → defaultValue (cY 6 k) = fldV ad none 0 (tcv (cY 6 k)) := fun k hk => by
  have hk : k < 6 := hk
  match k, hk with
  | 0, _ => rfl
  | 1, _ => rfl
  | 2, _ => rfl
  | 3, _ => rfl
  | 4, _ => rfl
  | 5, _ => rfl
  | k + 6, hk => exact absurd hk (by omega)
theorem dv_7 (ad : Nat → Nat) : ∀ k, k < cF 7 → defaultValue (cY 7 k) = fldV ad none 0 (tcv (cY 7 k)) := fun k hk => by
  have hk : k < 23 := hk
  match k, hk with
  | 0, _ => rfl
  | 1, _ => rfl
  | 2, _ => rfl
  | 3, _ => rfl
  | 4, _ => rfl
  | 5, _ => rfl
  | 6, _ => rfl
  | 7, _ => rfl
  | 8, _ => rfl
  | 9, _ => rfl
  | 10, _ => rfl
  | 11, _ => rfl
  | 12, _ => rfl
  | 13, _ => rfl
  | 14, _ => rfl
  | 15, _ => rfl
  | 16, _ => rfl
  | 17, _ => rfl
  | 18, _ => rfl
  | 19, _ => rfl
  | 20, _ => rfl
  | 21, _ => rfl
  | 22, _ => rfl
  | k + 23, hk => exact absurd hk (by omega)
theorem dv_ok : ∀ c, c < 8 → ∀ ad : Nat → Nat, ∀ k, k < cF c → defaultValue (cY c k) = fldV ad none 0 (tcv (cY c k)) := fun c hc => by
  match c, hc with
  | 0, _ => exact dv_0
  | 1, _ => exact dv_1
  | 2, _ => exact dv_2
  | 3, _ => exact dv_3
  | 4, _ => exact dv_4
  | 5, _ => exact dv_5
  | 6, _ => exact dv_6
  | 7, _ => exact dv_7
  | c + 8, hc => exact absurd hc (by omega)
theorem rf_0 : ∀ k, k < cF 0 → tcv (cY 0 k) = .null → (cY 0 k).isReference = true := fun k hk => by
  have hk : k < 3 := hk
  match k, hk with
  | 0, _ => exact fun _ => rfl
  | 1, _ => exact fun _ => rfl
  | 2, _ => exact fun _ => rfl
  | k + 3, hk => exact absurd hk (by omega)
theorem rf_1 : ∀ k, k < cF 1 → tcv (cY 1 k) = .null → (cY 1 k).isReference = true := fun k hk => by
  have hk : k < 17 := hk
  match k, hk with
  | 0, _ => exact fun h => Value.noConfusion h
  | 1, _ => exact fun _ => rfl
  | 2, _ => exact fun _ => rfl
  | 3, _ => exact fun h => Value.noConfusion h
  | 4, _ => exact fun _ => rfl
  | 5, _ => exact fun _ => rfl
  | 6, _ => exact fun _ => rfl
  | 7, _ => exact fun _ => rfl
  | 8, _ => exact fun _ => rfl
  | 9, _ => exact fun _ => rfl
  | 10, _ => exact fun h => Value.noConfusion h
  | 11, _ => exact fun h => Value.noConfusion h
  | 12, _ => exact fun _ => rfl
  | 13, _ => exact fun h => Value.noConfusion h
  | 14, _ => exact fun _ => rfl
  | 15, _ => exact fun _ => rfl
  | 16, _ => exact fun h => Value.noConfusion h
  | k + 17, hk => exact absurd hk (by omega)
theorem rf_2 : ∀ k, k < cF 2 → tcv (cY 2 k) = .null → (cY 2 k).isReference = true := fun k hk => by
  have hk : k < 2 := hk
  match k, hk with
  | 0, _ => exact fun _ => rfl
  | 1, _ => exact fun h => Value.noConfusion h
  | k + 2, hk => exact absurd hk (by omega)
theorem rf_3 : ∀ k, k < cF 3 → tcv (cY 3 k) = .null → (cY 3 k).isReference = true := fun k hk => by
  have hk : k < 8 := hk
  match k, hk with
  | 0, _ => exact fun _ => rfl
  | 1, _ => exact fun h => Value.noConfusion h
  | 2, _ => exact fun h => Value.noConfusion h
  | 3, _ => exact fun _ => rfl
  | 4, _ => exact fun h => Value.noConfusion h
  | 5, _ => exact fun h => Value.noConfusion h
  | 6, _ => exact fun h => Value.noConfusion h
  | 7, _ => exact fun h => Value.noConfusion h
  | k + 8, hk => exact absurd hk (by omega)
theorem rf_4 : ∀ k, k < cF 4 → tcv (cY 4 k) = .null → (cY 4 k).isReference = true := fun k hk => by
  have hk : k < 2 := hk
  match k, hk with
  | 0, _ => exact fun _ => rfl
  | 1, _ => exact fun _ => rfl
  | k + 2, hk => exact absurd hk (by omega)
theorem rf_5 : ∀ k, k < cF 5 → tcv (cY 5 k) = .null → (cY 5 k).isReference = true := fun k hk => by
  have hk : k < 5 := hk
  match k, hk with
  | 0, _ => exact fun _ => rfl
  | 1, _ => exact fun h => Value.noConfusion h
  | 2, _ => exact fun h => Value.noConfusion h
  | 3, _ => exact fun h => Value.noConfusion h
  | 4, _ => exact fun h => Value.noConfusion h
  | k + 5, hk => exact absurd hk (by omega)
theorem rf_6 : ∀ k, k < cF 6 → tcv (cY 6 k) = .null → (cY 6 k).isReference = true := fun k hk => by
  have hk : k < 6 := hk
  match k, hk with
  | 0, _ => exact fun _ => rfl
  | 1, _ => exact fun _ => rfl
  | 2, _ => exact fun _ => rfl
  | 3, _ => exact fun _ => rfl
  | 4, _ => exact fun _ => rfl
  | 5, _ => exact fun _ => rfl
  | k + 6, hk => exact absurd hk (by omega)
theorem rf_7 : ∀ k, k < cF 7 → tcv (cY 7 k) = .null → (cY 7 k).isReference = true := fun k hk => by
  have hk : k < 23 := hk
  match k, hk with
  | 0, _ => exact fun _ => rfl
  | 1, _ => exact fun _ => rfl
  | 2, _ => exact fun _ => rfl
  | 3, _ => exact fun _ => rfl
  | 4, _ => exact fun h => Value.noConfusion h
  | 5, _ => exact fun _ => rfl
  | 6, _ => exact fun h => Value.noConfusion h
  | 7, _ => exact fun _ => rfl
  | 8, _ => exact fun h => Value.noConfusion h
  | 9, _ => exact fun h => Value.noConfusion h
  | 10, _ => exact fun h => Value.noConfusion h
  | 11, _ => exact fun h => Value.noConfusion h
  | 12, _ => exact fun h => Value.noConfusion h
  | 13, _ => exact fun h => Value.noConfusion h
  | 14, _ => exact fun _ => rfl
  | 15, _ => exact fun _ => rfl
  | 16, _ => exact fun _ => rfl
  | 17, _ => exact fun h => Value.noConfusion h
  | 18, _ => exact fun h => Value.noConfusion h
  | 19, _ => exact fun h => Value.noConfusion h
  | 20, _ => exact fun h => Value.noConfusion h
  | 21, _ => exact fun h => Value.noConfusion h
  | 22, _ => exact fun _ => rfl
  | k + 23, hk => exact absurd hk (by omega)
theorem rf_ok : ∀ c, c < 8 → ∀ k, k < cF c → tcv (cY c k) = .null → (cY c k).isReference = true := fun c hc => by
  match c, hc with
  | 0, _ => exact rf_0
  | 1, _ => exact rf_1
  | 2, _ => exact rf_2
  | 3, _ => exact rf_3
  | 4, _ => exact rf_4
  | 5, _ => exact rf_5
  | 6, _ => exact rf_6
  | 7, _ => exact rf_7
  | c + 8, hc => exact absurd hc (by omega)
theorem wk_mc : Cond.code Lib.Math.max.name Lib.Math.max.code 2 (some .int) ∈ lw_tbl := wd_487
theorem wk_nc : Cond.code Lib.Math.min.name Lib.Math.min.code 2 (some .int) ∈ lw_tbl := wd_490
theorem wk_ms : Cond.static Lib.Math.max.name ∈ lw_tbl := wd_486
theorem wk_ns : Cond.static Lib.Math.min.name ∈ lw_tbl := wd_489
theorem wk_mi : Cond.initialized "java/lang/Math" ∈ lw_tbl := wd_60
theorem wk_fi : Cond.initialized "java/lang/Float" ∈ lw_tbl := wd_61
theorem wk_fn : Cond.native ⟨"java/lang/Float", "floatToRawIntBits", "(F)I"⟩ ∈ lw_tbl := wd_964
theorem wk_fs : Cond.static ⟨"java/lang/Float", "floatToRawIntBits", "(F)I"⟩ ∈ lw_tbl := wd_963
theorem wk_oi : Cond.instanceMethod Lib.objectInit ∈ lw_tbl := wd_68
theorem wk_oc : Cond.code Lib.objectInit ⟨#[0xb1]⟩ 1 none ∈ lw_tbl := wd_69
theorem wk_ai : Cond.arrayClass .int ∈ lw_tbl := wd_104
theorem wk_ac : Cond.arrayClass .char ∈ lw_tbl := wd_275
end
section
/-- what stays the same while a frame of method number m runs -/
def CF (G : PG) (p : Program) (R : Room) (s : State) (mid : MethodId) (args : Array Value) (meth : Method) (c : Code) (m : Nat) : Prop :=
  p.tables.exec = Jvm.exec ∧ c.code = mB m ∧ c.maxLocals = mL m ∧ s.vm.findClass (mO m) = some mid.cls ∧ (∀ w ∈ lwG, w.before args s = true) ∧ KU G s ∧ ((mY m).name = "<init>" → meth.name = "<init>") ∧ mK m ≤ R.frames ∧ 36 * mK m ≤ R.locals ∧ G.2.2.2.2 ≤ s.heap.size
/-- what holds at a point of a frame -/
def DY (G : PG) (s : State) (m : Nat) (ad : Nat → Nat) (ls : Lcl) (st : List Value) (σ : Sg) (M : Mem) (H : Heap) (locs : List Jvm.Loc) (lsr : Array Slot) : Prop :=
  HP G ad σ M H ∧ ZU G ad σ M s s.heap ∧ va_S (AA G) s.heap H locs ∧ wfS σ ∧ okS σ st ∧ okL σ ls ∧ lv_has lsr (mL m) (asc ad ls) ∧ ls.length = mL m
def RT (ins : Instr) (r : Option Value) (cv : Value) : Prop := (∃ v, r = some (.int v) ∧ ins = .ireturn ∧ okR cv v = true) ∨ (r = none ∧ ins = .return_)
def FS (f : Nat) : Prop := ∀ (m pc : Nat) (ls : Lcl) (st : List Value) (σ : Sg) (M : Mem) (r : Option Value) (σ1 : Sg) (M1 : Mem), exec f m pc ls st σ M = some (r, σ1, M1) →
  ∀ (G : PG) (p : Program) (l : Launch) (e : Env) (R : Room) (s : State) (mid : MethodId) (args : Array Value) (below : List Frame) (meth : Method) (c : Code) (Q : State → Prop), CF G p R s mid args meth c m →
  ∀ (ad : Nat → Nat) (H : Heap) (locs : List Jvm.Loc) (cells slots : Nat) (lsr : Array Slot), DY G s m ad ls st σ M H locs lsr → cells + sN σ1 ≤ R.cells + sN σ → slots + sS σ1 ≤ R.slots + sS σ →
  (∀ (pc2 npc a b d w : Nat) (ins : Instr) (cv : Value) (sw : List (Int32 × Nat)) (lsr2 : Array Slot) (H2 : Heap) (locs2 : List Jvm.Loc) (ad2 : Nat → Nat), fe (mC m) pc2 = some (ins, npc, a, b, d, w, cv, sw) → RT ins r cv → HP G ad2 σ1 M1 H2 → AG σ ad ad2 → va_S (AA G) s.heap H2 locs2 → wfS σ1 → W p l e R s mid args below meth c H2 locs2 R.cells R.slots Q (F0 mid pc2 lsr2 r.toList)) →
  W p l e R s mid args below meth c H locs cells slots Q (F0 mid pc lsr (st.map (amap ad)))
def Gr (σ : Sg) (x : Option Rs) : Prop := ∀ (pc1 : Nat) (ls1 : Lcl) (st1 : List Value) (σ1 : Sg) (M1 : Mem), x = some (.inl (pc1, ls1, st1, σ1, M1)) → sN σ ≤ sN σ1 ∧ sS σ ≤ sS σ1
theorem gr_go {pc : Nat} {ls : Lcl} {st : List Value} {σ σ2 : Sg} {M : Mem} (h : sN σ ≤ sN σ2 ∧ sS σ ≤ sS σ2) : Gr σ (go pc ls st σ2 M) := fun _ _ _ _ _ e => by
  simp only [go, Option.some.injEq, Sum.inl.injEq, Prod.mk.injEq] at e
  obtain ⟨-, -, -, rfl, -⟩ := e
  exact h
theorem gr_n {σ : Sg} : Gr σ none := fun _ _ _ _ _ e => by cases e
theorem gr_r {σ : Sg} {x : (Nat × Lcl × List Value) ⊕ Option Value} : Gr σ (some (.inr x)) := fun _ _ _ _ _ e => by cases e
theorem gr_pI {σ : Sg} {st : List Value} {K : Int32 → List Value → Option Rs} (h : ∀ y r, Gr σ (K y r)) : Gr σ (pI st K) := by
  unfold pI; split
  · exact h _ _
  · exact gr_n
theorem gr_pR {σ : Sg} {st : List Value} {K : Nat → List Value → Option Rs} (h : ∀ y r, Gr σ (K y r)) : Gr σ (pR st K) := by
  unfold pR; split
  · exact h _ _
  · exact gr_n
theorem gr_pG {σ : Sg} {st : List Value} {K : Int64 → List Value → Option Rs} (h : ∀ y r, Gr σ (K y r)) : Gr σ (pG st K) := by
  unfold pG; split
  · exact h _ _
  · exact gr_n
theorem gr_pF {σ : Sg} {st : List Value} {K : UInt32 → List Value → Option Rs} (h : ∀ y r, Gr σ (K y r)) : Gr σ (pF st K) := by
  unfold pF; split
  · exact h _ _
  · exact gr_n
theorem gr_pV {σ : Sg} {st : List Value} {K : Value → List Value → Option Rs} (h : ∀ y r, Gr σ (K y r)) : Gr σ (pV st K) := by
  unfold pV; split
  · exact h _ _
  · exact h _ _
  · exact h _ _
  · exact h _ _
  · exact gr_n
theorem gr_ldI {σ : Sg} {v : Option Value} {K : Int32 → Option Rs} (h : ∀ y, Gr σ (K y)) : Gr σ (ldI v K) := by
  unfold ldI; split
  · exact h _
  · exact gr_n
theorem gr_ldG {σ : Sg} {v : Option Value} {K : Int64 → Option Rs} (h : ∀ y, Gr σ (K y)) : Gr σ (ldG v K) := by
  unfold ldG; split
  · exact h _
  · exact gr_n
theorem gr_ldF {σ : Sg} {v : Option Value} {K : UInt32 → Option Rs} (h : ∀ y, Gr σ (K y)) : Gr σ (ldF v K) := by
  unfold ldF; split
  · exact h _
  · exact gr_n
theorem gr_ldA {σ : Sg} {v : Option Value} {K : Value → Option Rs} (h : ∀ y, Gr σ (K y)) : Gr σ (ldA v K) := by
  unfold ldA; split
  · exact h _
  · exact h _
  · exact gr_n
theorem gr_gd {σ : Sg} {c : Prop} [Decidable c] {K : Option Rs} (h : Gr σ K) : Gr σ (gd c K) := by
  unfold gd; split
  · exact h
  · exact gr_n
theorem gr_ixI {σ : Sg} {i : Int32} {n : Nat} {K : Nat → Option Rs} (h : ∀ k, Gr σ (K k)) : Gr σ (ixI i n K) := by
  unfold ixI; split
  · exact gr_n
  · exact h _
theorem gr_st1 {σ : Sg} {ls : Lcl} {k : Nat} {v : Value} {K : Lcl → Option Rs} (h : ∀ l, Gr σ (K l)) : Gr σ (st1 ls k v K) := gr_gd (h _)
theorem gr_st2 {σ : Sg} {ls : Lcl} {k : Nat} {v : Value} {K : Lcl → Option Rs} (h : ∀ l, Gr σ (K l)) : Gr σ (st2 ls k v K) := gr_gd (h _)
theorem gr_call {σ σ2 : Sg} {a b d : Nat} {r : Option (List Value × List Value)} : Gr σ (doCall σ2 a b d r) := by
  unfold doCall
  split
  · split
    · split
      · exact gr_r
      · split
        · split
          · exact gr_r
          · exact gr_n
        · exact gr_n
    · exact gr_n
  · exact gr_n
theorem gr_rf {σ : Sg} : sN σ ≤ sN σ ∧ sS σ ≤ sS σ := ⟨Nat.le_refl _, Nat.le_refl _⟩
theorem gr_sR {σ : Sg} {o : Nat} {f : Nat → Option Nat} : sN σ ≤ sN (setR σ o f) ∧ sS σ ≤ sS (setR σ o f) := ⟨Nat.le_refl _, Nat.le_refl _⟩
theorem gr_al {σ : Sg} {t l k : Nat} : sN σ ≤ sN (alloc σ t l k) ∧ sS σ ≤ sS (alloc σ t l k) := ⟨Nat.le_add_right _ _, Nat.le_add_right _ _⟩
theorem gr_putF {cv : Value} {k : Nat} {st : List Value} {npc : Nat} {ls : Lcl} {tag : Nat} {σ : Sg} {M : Mem} : Gr σ (putF cv k st npc ls tag σ M) := by
  unfold putF; split
  · exact gr_pR fun _ _ => gr_pR fun _ _ => gr_gd (gr_go gr_sR)
  · exact gr_pI fun _ _ => gr_pR fun _ _ => gr_gd (gr_go gr_rf)
theorem gr_spec {a npc : Nat} {st : List Value} {ls : Lcl} {σ : Sg} {M : Mem} : Gr σ (spec a npc ls st σ M) := by
  unfold spec
  split
  · exact gr_pR fun _ _ => gr_gd (gr_go gr_rf)
  · split
    · exact gr_pI fun _ _ => gr_pI fun _ _ => gr_gd (gr_go gr_rf)
    · split
      · exact gr_pI fun _ _ => gr_pI fun _ _ => gr_gd (gr_go gr_rf)
      · exact gr_pF fun _ _ => gr_gd (gr_go gr_rf)
theorem gr_stA {ins : Instr} {npc a b d : Nat} {cv : Value} {sw : List (Int32 × Nat)} {ls : Lcl} {st : List Value} {σ : Sg} {M : Mem} : Gr σ (stA ins npc a b d cv sw ls st σ M) := by
  cases ins
  all_goals simp only [stA]
  all_goals first
    | exact gr_go gr_rf
    | exact gr_n
    | exact gr_call
    | exact gr_putF
    | (refine gr_ldI fun _ => ?_; first | exact gr_go gr_rf | exact gr_st1 fun _ => gr_go gr_rf)
    | exact gr_ldA fun _ => gr_go gr_rf
    | exact gr_ldG fun _ => gr_go gr_rf
    | exact gr_ldF fun _ => gr_go gr_rf
    | (refine gr_pI fun _ _ => ?_; first | exact gr_go gr_rf | exact gr_st1 fun _ => gr_go gr_rf | exact gr_pI fun _ _ => gr_go gr_rf | exact gr_pI fun _ _ => gr_gd (gr_go gr_rf) | exact gr_pR fun _ _ => gr_gd (gr_ixI fun _ => gr_go gr_rf) | exact gr_pI fun _ _ => gr_pR fun _ _ => gr_gd (gr_ixI fun _ => gr_go gr_rf) | exact gr_gd (gr_ixI fun _ => gr_go gr_al))
    | (refine gr_pR fun _ _ => ?_; first | exact gr_go gr_rf | exact gr_st1 fun _ => gr_go gr_rf | exact gr_gd (gr_go gr_rf) | exact gr_pI fun _ _ => gr_pR fun _ _ => gr_gd (gr_ixI fun _ => gr_go gr_sR))
    | (refine gr_pF fun _ _ => ?_; first | exact gr_go gr_rf | exact gr_st1 fun _ => gr_go gr_rf | exact gr_pF fun _ _ => gr_go gr_rf | exact gr_pF fun _ _ => gr_gd (gr_go gr_rf))
    | (refine gr_pG fun _ _ => ?_; first | exact gr_go gr_rf | exact gr_st2 fun _ => gr_go gr_rf | exact gr_pG fun _ _ => gr_go gr_rf | exact gr_pG fun _ _ => gr_gd (gr_go gr_rf))
    | (refine gr_pV fun _ _ => ?_; first | exact gr_go gr_rf | exact gr_pV fun _ _ => gr_go gr_rf)
    | exact gr_gd (gr_go gr_al)
    | (split
       · exact gr_call
       · exact gr_spec)
    | (split
       · exact gr_gd gr_r
       · exact gr_n)
    | (split
       · exact gr_r
       · exact gr_n)
theorem stA_mono {ins : Instr} {npc a b d : Nat} {cv : Value} {sw : List (Int32 × Nat)} {ls : Lcl} {st : List Value} {σ : Sg} {M : Mem} {pc1 : Nat} {ls1 : Lcl} {st1 : List Value} {σ1 : Sg} {M1 : Mem} (h : stA ins npc a b d cv sw ls st σ M = some (.inl (pc1, ls1, st1, σ1, M1))) : sN σ ≤ sN σ1 ∧ sS σ ≤ sS σ1 := by
  exact gr_stA _ _ _ _ _ h
theorem exec_grow : ∀ {f m pc : Nat} {ls : Lcl} {st : List Value} {σ : Sg} {M : Mem} {r : Option Value} {σ1 : Sg} {M1 : Mem}, exec f m pc ls st σ M = some (r, σ1, M1) → sN σ ≤ sN σ1 ∧ sS σ ≤ sS σ1
  | 0, _, _, _, _, _, _, _, _, _, h => by simp [exec] at h
  | f + 1, m, pc, ls, st, σ, M, r, σ1, M1, h => by
    rw [exec] at h
    split at h
    · cases h
    · split at h
      · cases h
      · rename_i hs
        have a1 := stA_mono hs
        have a2 := exec_grow h
        omega
      · split at h
        · cases h
        · rename_i hc
          have a1 := exec_grow hc
          have a2 := exec_grow h
          omega
      · cases h
        exact ⟨Nat.le_refl _, Nat.le_refl _⟩
theorem dec_of_good {m pc npc a b d w : Nat} {ins : Instr} {cv : Value} {sw : List (Int32 × Nat)} (h : good m (pc, ins, npc, a, b, d, w, cv, sw) = true) : decode (mB m) pc = .ok (ins, npc - pc) := by
  unfold good at h
  rw [Bool.and_eq_true] at h
  exact of_decide_eq_true h.1
theorem swT_ls {x : Int32} {pc : Nat} {df : Int} {a : Nat} (ha : (pc : Int) + df = (a : Int)) : ∀ {ps : List (Int × Int)} {sw : List (Int32 × Nat)}, lswOk pc ps sw = true → (pc : Int) + Op.lookupswitch.offset ps df x.toInt = (swT sw a x : Int)
  | [], [], _ => by simpa [Op.lookupswitch.offset, swT] using ha
  | [], _ :: _, h => by simp [lswOk] at h
  | _ :: _, [], h => by simp [lswOk] at h
  | p :: ps, q :: sw, h => by
    simp only [lswOk, Bool.and_eq_true, decide_eq_true_eq] at h
    obtain ⟨⟨h1, h2⟩, h3⟩ := h
    have ih := swT_ls (x := x) ha h3
    obtain ⟨p1, p2⟩ := p
    obtain ⟨q1, q2⟩ := q
    simp only at h1 h2
    by_cases hx : x = q1
    · subst hx
      rw [show swT ((x, q2) :: sw) a x = q2 by simp [swT], h2]
      simp [Op.lookupswitch.offset, h1]
    · rw [lv_osw hx h1, ih, show swT ((q1, q2) :: sw) a x = swT sw a x by simp [swT, hx]]
theorem swT_ts {x : Int32} {d : Nat} : ∀ {sw : List (Int32 × Nat)} {lo : Int}, (∀ i, i < sw.length → (sw[i]?).map (fun q => q.1.toInt) = some (lo + i)) →
    ((x.toInt < lo ∨ lo + sw.length - 1 < x.toInt) → swT sw d x = d) ∧ (¬ x.toInt < lo → ¬ lo + sw.length - 1 < x.toInt → (sw[(x.toInt - lo).toNat]?).map (fun q => q.2) = some (swT sw d x))
  | [], lo, _ => ⟨fun _ => rfl, fun h1 h2 => by simp at h2; omega⟩
  | (v, t) :: sw, lo, h => by
    have hv : v.toInt = lo := by have := h 0 (by simp); simpa using this
    have ih := swT_ts (x := x) (d := d) (sw := sw) (lo := lo + 1) (fun i hi => by
      have h2 := h (i + 1) (by simp; omega)
      simp only [List.getElem?_cons_succ] at h2
      rw [h2]
      congr 1
      push_cast
      omega)
    have hlen : ((v, t) :: sw).length = sw.length + 1 := rfl
    by_cases hx : x = v
    · subst hx
      rw [hlen]
      refine ⟨fun q => by push_cast at q; omega, fun _ _ => ?_⟩
      rw [show (x.toInt - lo).toNat = 0 by omega]
      simp [swT]
    · have hne : x.toInt ≠ lo := fun q => hx (Int32.toInt_inj.mp (q.trans hv.symm))
      rw [hlen, show swT ((v, t) :: sw) d x = swT sw d x by simp [swT, hx]]
      refine ⟨fun q => ih.1 (by push_cast at q; omega), fun h1 h2 => ?_⟩
      have h3 := ih.2 (by omega) (by push_cast at h2; omega)
      rw [show (x.toInt - lo).toNat = (x.toInt - (lo + 1)).toNat + 1 by omega, List.getElem?_cons_succ]
      exact h3
theorem getF_map {ad : Nat → Nat} {R : Option Nat} {x : Int32} {cv : Value} : amap ad (getF cv R x) = fldV ad R x cv := by
  cases cv <;> first | rfl | (cases R <;> rfl)
theorem rf_map {ad : Nat → Nat} {R : Option Nat} : amap ad (va_rf R) = va_rf (R.map ad) := by cases R <;> rfl
theorem ent_obj {G : PG} {ad : Nat → Nat} {σ : Sg} {M : Mem} {i t : Nat} (h : sT σ i = t) (ht : 10 ≤ t) : ent G ad σ M i = .inr (t - 10, (List.range (cF (t - 10))).map (fun k => fldV ad (sR σ i k) (M i k) (tcv (cY (t - 10) k)))) := by
  subst h
  unfold ent
  rw [if_neg (by omega), if_neg (by omega), if_neg (by omega)]
theorem ent_0 {G : PG} {ad : Nat → Nat} {σ : Sg} {M : Mem} {i : Nat} (h : sT σ i = 0) : ent G ad σ M i = .inl (G.2.1, sL σ i, .inl (M i)) := by unfold ent; rw [if_pos h]
theorem ent_1 {G : PG} {ad : Nat → Nat} {σ : Sg} {M : Mem} {i : Nat} (h : sT σ i = 1) : ent G ad σ M i = .inl (G.2.2.1, sL σ i, .inl (M i)) := by unfold ent; rw [if_neg (by omega), if_pos h]
theorem ent_2 {G : PG} {ad : Nat → Nat} {σ : Sg} {M : Mem} {i : Nat} (h : sT σ i = 2) : ent G ad σ M i = .inl (G.2.2.2.1, sL σ i, .inr (.inr (.inr (.inr (fun j => (sR σ i j).map ad))))) := by unfold ent; rw [if_neg (by omega), if_neg (by omega), if_pos h]
/-- a cell's picture depends on its own rows alone -/
theorem ent_same {G : PG} {ad ad2 : Nat → Nat} {σ σ2 : Sg} {M M2 : Mem} {i : Nat} (hT : sT σ2 i = sT σ i) (hL : sL σ2 i = sL σ i) (hM : M2 i = M i) (hR : ∀ k, (sR σ2 i k).map ad2 = (sR σ i k).map ad) : ent G ad2 σ2 M2 i = ent G ad σ M i := by
  have hf : ∀ k cv, fldV ad2 (sR σ2 i k) (M2 i k) cv = fldV ad (sR σ i k) (M i k) cv := fun k cv => by
    cases cv <;> simp [fldV, hR, hM]
  unfold ent
  rw [hT, hL, hM]
  simp only [hR, ← hM, hf]
theorem upM_s {α : Type} {M : Nat → α} {o : Nat} {f : α} : upM M o f o = f := if_pos rfl
theorem upM_n {α : Type} {M : Nat → α} {o b : Nat} {f : α} (h : b ≠ o) : upM M o f b = M b := if_neg h
theorem okA_obj {σ : Sg} {j : Nat} (h : okA σ j) (ht : sT σ j ≠ 9) : j < sN σ := h.elim id fun q => absurd q ht
theorem br_eq_t {x y : Int32} {t e : Nat} (h : x = y) : br32 .eq x y t e = t := if_pos h
theorem br_eq_f {x y : Int32} {t e : Nat} (h : ¬ x = y) : br32 .eq x y t e = e := if_neg h
theorem br_ne_t {x y : Int32} {t e : Nat} (h : ¬ x = y) : br32 .ne x y t e = t := if_neg h
theorem br_ne_f {x y : Int32} {t e : Nat} (h : x = y) : br32 .ne x y t e = e := if_pos h
theorem br_lt_t {x y : Int32} {t e : Nat} (h : x < y) : br32 .lt x y t e = t := if_pos h
theorem br_lt_f {x y : Int32} {t e : Nat} (h : ¬ x < y) : br32 .lt x y t e = e := if_neg h
theorem br_ge_t {x y : Int32} {t e : Nat} (h : y ≤ x) : br32 .ge x y t e = t := if_neg (Int32.not_lt.mpr h)
theorem br_ge_f {x y : Int32} {t e : Nat} (h : ¬ y ≤ x) : br32 .ge x y t e = e := if_pos (Int32.not_le.mp h)
theorem br_gt_t {x y : Int32} {t e : Nat} (h : y < x) : br32 .gt x y t e = t := if_pos h
theorem br_gt_f {x y : Int32} {t e : Nat} (h : ¬ y < x) : br32 .gt x y t e = e := if_neg h
theorem br_le_t {x y : Int32} {t e : Nat} (h : x ≤ y) : br32 .le x y t e = t := if_neg (Int32.not_lt.mpr h)
theorem br_le_f {x y : Int32} {t e : Nat} (h : ¬ x ≤ y) : br32 .le x y t e = e := if_pos (Int32.not_le.mp h)
theorem go_inl {pc : Nat} {ls : Lcl} {st : List Value} {σ : Sg} {M : Mem} {x : Rs} (h : go pc ls st σ M = some x) : x = .inl (pc, ls, st, σ, M) := (Option.some.inj h).symm
/-- the rows that leave the heap as it is; the others are told apart -/
def hard (ins : Instr) : Bool := match ins with
  | .getfield _ => true
  | .putfield _ => true
  | .getstatic _ => true
  | .arraylength => true
  | .iaload => true
  | .caload => true
  | .aaload => true
  | .iastore => true
  | .castore => true
  | .aastore => true
  | .new _ => true
  | .newarray _ => true
  | .anewarray _ => true
  | .invokevirtual _ => true
  | .invokestatic _ => true
  | .invokespecial _ => true
  | .ireturn => true
  | .return_ => true
  | _ => false
def FSat (f : Nat) (ins : Instr) : Prop := ∀ (m pc npc a b d w : Nat) (cv : Value) (sw : List (Int32 × Nat)) (ls : Lcl) (st : List Value) (σ : Sg) (M : Mem) (r : Option Value) (σ1 : Sg) (M1 : Mem), fe (mC m) pc = some (ins, npc, a, b, d, w, cv, sw) → exec (f + 1) m pc ls st σ M = some (r, σ1, M1) →
  ∀ (G : PG) (p : Program) (l : Launch) (e : Env) (R : Room) (s : State) (mid : MethodId) (args : Array Value) (below : List Frame) (meth : Method) (c : Code) (Q : State → Prop), CF G p R s mid args meth c m →
  ∀ (ad : Nat → Nat) (H : Heap) (locs : List Jvm.Loc) (cells slots : Nat) (lsr : Array Slot), DY G s m ad ls st σ M H locs lsr → cells + sN σ1 ≤ R.cells + sN σ → slots + sS σ1 ≤ R.slots + sS σ →
  (∀ (pc2 npc a b d w : Nat) (ins : Instr) (cv : Value) (sw : List (Int32 × Nat)) (lsr2 : Array Slot) (H2 : Heap) (locs2 : List Jvm.Loc) (ad2 : Nat → Nat), fe (mC m) pc2 = some (ins, npc, a, b, d, w, cv, sw) → RT ins r cv → HP G ad2 σ1 M1 H2 → AG σ ad ad2 → va_S (AA G) s.heap H2 locs2 → wfS σ1 → W p l e R s mid args below meth c H2 locs2 R.cells R.slots Q (F0 mid pc2 lsr2 r.toList)) →
  W p l e R s mid args below meth c H locs cells slots Q (F0 mid pc lsr (st.map (amap ad)))
set_option maxHeartbeats 4000000 in
theorem fs_easy {f : Nat} (ih : FS f) (ins : Instr) (hh : hard ins = false) : FSat f ins := by
  intro m pc npc a b d w cv sw ls st σ M r σ1 M1 he hex G p l e R s mid args below meth c Q hC ad H locs cells slots lsr hY hcl hsl hE
  obtain ⟨hx, hb, hml, hown, hts, hKU, hini, hfr, hlo, hz⟩ := id hC
  obtain ⟨⟨hP, hD⟩, hZ, hS, hwf, hos, hol, hl, hlen⟩ := id hY
  have hg := fe_good he
  have hk := fe_link he
  have hd := dec_of_good hg
  have nl : ∀ (pc1 : Nat) (ls1 : Lcl) (st1 : List Value) (lsr1 : Array Slot), exec f m pc1 ls1 st1 σ M = some (r, σ1, M1) → okS σ st1 → okL σ ls1 → lv_has lsr1 (mL m) (asc ad ls1) → ls1.length = mL m → W p l e R s mid args below meth c H locs cells slots Q (F0 mid pc1 lsr1 (st1.map (amap ad))) := fun pc1 ls1 st1 lsr1 h1 h2 h3 h4 h5 => ih m pc1 ls1 st1 σ M r σ1 M1 h1 G p l e R s mid args below meth c Q hC ad H locs cells slots lsr1 ⟨⟨hP, hD⟩, hZ, hS, hwf, h2, h3, h4, h5⟩ hcl hsl hE
  have nx : ∀ (pc1 : Nat) (st1 : List Value), exec f m pc1 ls st1 σ M = some (r, σ1, M1) → okS σ st1 → W p l e R s mid args below meth c H locs cells slots Q (F0 mid pc1 lsr (st1.map (amap ad))) := fun pc1 st1 h1 h2 => nl pc1 ls st1 lsr h1 h2 hol hl hlen
  rw [exec, he] at hex
  dsimp only at hex
  cases hs : stA ins npc a b d cv sw ls st σ M with
  | none => rw [hs] at hex; cases hex
  | some res =>
  rw [hs] at hex
  cases ins with
  | iconst n =>
    simp only [good, Bool.and_eq_true, decide_eq_true_eq] at hg
    obtain ⟨-, rfl, rfl⟩ := hg
    rw [Nat.add_sub_cancel_left] at hd
    obtain rfl := go_inl hs
    exact lv_iconst hx hb hd rfl (nx _ _ hex (okS_c okV_i hos))
  | bipush n =>
    simp only [good, Bool.and_eq_true, decide_eq_true_eq] at hg
    obtain ⟨-, rfl, rfl⟩ := hg
    rw [Nat.add_sub_cancel_left] at hd
    obtain rfl := go_inl hs
    exact lv_bipush hx hb hd rfl (nx _ _ hex (okS_c okV_i hos))
  | sipush n =>
    simp only [good, Bool.and_eq_true, decide_eq_true_eq] at hg
    obtain ⟨-, rfl, rfl⟩ := hg
    rw [Nat.add_sub_cancel_left] at hd
    obtain rfl := go_inl hs
    exact lv_sipush hx hb hd rfl (nx _ _ hex (okS_c okV_i hos))
  | ldc n =>
    simp only [good, Bool.and_eq_true, decide_eq_true_eq] at hg
    obtain ⟨-, rfl⟩ := hg
    rw [Nat.add_sub_cancel_left] at hd
    obtain rfl := go_inl hs
    simp only [LkP] at hk
    split at hk
    · exact lv_ldc hx hb hown (hts _ (lwG_of hk rfl)) hd (nx _ _ hex (okS_c okV_i hos))
    · exact lv_ldcf hx hb hown (hts _ (lwG_of hk rfl)) hd (nx _ _ hex (okS_c okV_f hos))
    · exact hk.elim
  | ldc2_w n =>
    simp only [good, Bool.and_eq_true, decide_eq_true_eq] at hg
    obtain ⟨-, rfl⟩ := hg
    rw [Nat.add_sub_cancel_left] at hd
    obtain rfl := go_inl hs
    simp only [LkP] at hk
    split at hk
    · exact lv_ldc2 hx hb hown (hts _ (lwG_of hk rfl)) hd (nx _ _ hex (okS_c okV_l hos))
    · exact hk.elim
  | fconst n =>
    simp only [good, Bool.and_eq_true, decide_eq_true_eq] at hg
    obtain ⟨-, rfl, rfl⟩ := hg
    rw [Nat.add_sub_cancel_left] at hd
    obtain rfl := go_inl hs
    have hex : exec f m (pc + 1) ls (.float (if n = 0 then FP.fconst0 else if n = 1 then FP.fconst1 else FP.fconst2) :: st) σ M = some (r, σ1, M1) := hex
    by_cases h0 : n = 0
    · subst h0
      rw [if_pos rfl] at hex
      exact lv_fconst0 hx hb hd (nx _ _ hex (okS_c okV_f hos))
    · rw [if_neg h0] at hex
      by_cases h1 : n = 1
      · subst h1
        rw [if_pos rfl] at hex
        exact lv_fconst1 hx hb hd (nx _ _ hex (okS_c okV_f hos))
      · rw [if_neg h1] at hex
        have h2 : n = 2 := by omega
        subst h2
        exact lv_fconst2 hx hb hd (nx _ _ hex (okS_c okV_f hos))
  | iload k =>
    simp only [good, Bool.and_eq_true, decide_eq_true_eq] at hg
    obtain ⟨-, rfl⟩ := hg
    rw [Nat.add_sub_cancel_left] at hd
    obtain ⟨x, hv, hs⟩ := ldI_some hs
    obtain rfl := go_inl hs
    exact lv_iload hx hb hd (lv_rd hl hv) (nx _ _ hex (okS_c okV_i hos))
  | iload_n k =>
    simp only [good, Bool.and_eq_true, decide_eq_true_eq] at hg
    obtain ⟨-, rfl⟩ := hg
    rw [Nat.add_sub_cancel_left] at hd
    obtain ⟨x, hv, hs⟩ := ldI_some hs
    obtain rfl := go_inl hs
    exact lv_iload_n hx hb hd rfl (lv_rd hl hv) (nx _ _ hex (okS_c okV_i hos))
  | lload_n k =>
    simp only [good, Bool.and_eq_true, decide_eq_true_eq] at hg
    obtain ⟨-, rfl⟩ := hg
    rw [Nat.add_sub_cancel_left] at hd
    obtain ⟨x, hv, hs⟩ := ldG_some hs
    obtain rfl := go_inl hs
    exact lv_lload_n hx hb hd rfl (lv_rd hl hv) (nx _ _ hex (okS_c okV_l hos))
  | fload_n k =>
    simp only [good, Bool.and_eq_true, decide_eq_true_eq] at hg
    obtain ⟨-, rfl⟩ := hg
    rw [Nat.add_sub_cancel_left] at hd
    obtain ⟨x, hv, hs⟩ := ldF_some hs
    obtain rfl := go_inl hs
    exact lv_fload_n hx hb hd rfl (lv_rd hl hv) (nx _ _ hex (okS_c okV_f hos))
  | aload_n k =>
    simp only [good, Bool.and_eq_true, decide_eq_true_eq] at hg
    obtain ⟨-, rfl⟩ := hg
    rw [Nat.add_sub_cancel_left] at hd
    simp only [stA] at hs
    rcases ldA_some hs with ⟨x, hv, hs⟩ | ⟨hv, hs⟩
    · obtain rfl := go_inl hs
      exact lv_aload_n hx hb hd rfl (lv_rd hl hv) (nx _ _ hex (okS_c (hol _ _ hv) hos))
    · obtain rfl := go_inl hs
      exact lv_aload_nN hx hb hd rfl (lv_rd hl hv) (nx _ _ hex (okS_c okV_n hos))
  | istore k =>
    simp only [good, Bool.and_eq_true, decide_eq_true_eq] at hg
    obtain ⟨-, rfl⟩ := hg
    rw [Nat.add_sub_cancel_left] at hd
    obtain ⟨x, r1, rfl, hs⟩ := pI_some hs
    obtain ⟨⟨h1, h2⟩, hs⟩ := gd_some hs
    obtain rfl := go_inl hs
    refine lv_istore hx hb hd  hl (by omega) rfl (fun ls2 hl2 => nl _ _ _ ls2 hex (okS_t hos) (okL_set hol (fun _ h => by cases h; exact okV_i)) (lv_st1 (x := .int x) h2 hl2) (by rw [lset_len]; exact hlen))
  | istore_n k =>
    simp only [good, Bool.and_eq_true, decide_eq_true_eq] at hg
    obtain ⟨-, rfl⟩ := hg
    rw [Nat.add_sub_cancel_left] at hd
    obtain ⟨x, r1, rfl, hs⟩ := pI_some hs
    obtain ⟨⟨h1, h2⟩, hs⟩ := gd_some hs
    obtain rfl := go_inl hs
    refine lv_istore_n hx hb hd rfl hl (by omega) rfl (fun ls2 hl2 => nl _ _ _ ls2 hex (okS_t hos) (okL_set hol (fun _ h => by cases h; exact okV_i)) (lv_st1 (x := .int x) h2 hl2) (by rw [lset_len]; exact hlen))
  | astore_n k =>
    simp only [good, Bool.and_eq_true, decide_eq_true_eq] at hg
    obtain ⟨-, rfl⟩ := hg
    rw [Nat.add_sub_cancel_left] at hd
    obtain ⟨x, r1, rfl, hs⟩ := pR_some hs
    obtain ⟨⟨h1, h2⟩, hs⟩ := gd_some hs
    obtain rfl := go_inl hs
    refine lv_astore_n hx hb hd rfl hl (by omega) rfl (fun ls2 hl2 => nl _ _ _ ls2 hex (okS_t hos) (okL_set hol (fun _ h => by cases h; exact (okS_h hos))) (lv_st1 (x := .ref x) h2 hl2) (by rw [lset_len]; exact hlen))
  | fstore_n k =>
    simp only [good, Bool.and_eq_true, decide_eq_true_eq] at hg
    obtain ⟨-, rfl⟩ := hg
    rw [Nat.add_sub_cancel_left] at hd
    obtain ⟨x, r1, rfl, hs⟩ := pF_some hs
    obtain ⟨⟨h1, h2⟩, hs⟩ := gd_some hs
    obtain rfl := go_inl hs
    refine lv_fstore_n hx hb hd rfl hl (by omega) rfl (fun ls2 hl2 => nl _ _ _ ls2 hex (okS_t hos) (okL_set hol (fun _ h => by cases h; exact okV_f)) (lv_st1 (x := .float x) h2 hl2) (by rw [lset_len]; exact hlen))
  | lstore_n k =>
    simp only [good, Bool.and_eq_true, decide_eq_true_eq] at hg
    obtain ⟨-, rfl⟩ := hg
    rw [Nat.add_sub_cancel_left] at hd
    obtain ⟨x, r1, rfl, hs⟩ := pG_some hs
    obtain ⟨⟨h1, h2⟩, hs⟩ := gd_some hs
    obtain rfl := go_inl hs
    refine lv_lstore_n hx hb hd rfl hl (by omega) rfl (fun ls2 hl2 => nl _ _ _ ls2 hex (okS_t hos) (okL_set (okL_set hol (fun _ h => by cases h)) (fun _ h => by cases h; exact okV_l)) (lv_st2 (x := .long x) h2 hl2) (by rw [lset_len, lset_len]; exact hlen))
  | iinc k n =>
    simp only [good, Bool.and_eq_true, decide_eq_true_eq] at hg
    obtain ⟨-, rfl⟩ := hg
    rw [Nat.add_sub_cancel_left] at hd
    obtain ⟨x, hv, hs⟩ := ldI_some hs
    obtain ⟨⟨h1, h2⟩, hs⟩ := gd_some hs
    obtain rfl := go_inl hs
    obtain ⟨j, hj⟩ := List.getElem?_of_mem (mem_asc.mpr ⟨.int x, hv, rfl⟩ : ((k, amap ad (.int x)) : Nat × Value) ∈ asc ad ls)
    exact lv_iinc hx hb hd hl hj rfl (by omega) rfl (fun ls2 hl2 => nl _ _ _ ls2 hex hos (okL_set hol (fun _ h => by cases h; exact okV_i)) (lv_st1 (x := .int (x + Int32.ofInt n)) h2 hl2) (by rw [lset_len]; exact hlen))
  | iadd =>
    simp only [good, Bool.and_eq_true, decide_eq_true_eq] at hg
    obtain ⟨-, rfl⟩ := hg
    rw [Nat.add_sub_cancel_left] at hd
    obtain ⟨y, r1, rfl, hs⟩ := pI_some hs
    obtain ⟨x, r2, rfl, hs⟩ := pI_some hs
    obtain rfl := go_inl hs
    exact lv_iadd hx hb hd (nx _ _ hex (okS_c okV_i (okS_t (okS_t hos))))
  | isub =>
    simp only [good, Bool.and_eq_true, decide_eq_true_eq] at hg
    obtain ⟨-, rfl⟩ := hg
    rw [Nat.add_sub_cancel_left] at hd
    obtain ⟨y, r1, rfl, hs⟩ := pI_some hs
    obtain ⟨x, r2, rfl, hs⟩ := pI_some hs
    obtain rfl := go_inl hs
    exact lv_isub hx hb hd (nx _ _ hex (okS_c okV_i (okS_t (okS_t hos))))
  | imul =>
    simp only [good, Bool.and_eq_true, decide_eq_true_eq] at hg
    obtain ⟨-, rfl⟩ := hg
    rw [Nat.add_sub_cancel_left] at hd
    obtain ⟨y, r1, rfl, hs⟩ := pI_some hs
    obtain ⟨x, r2, rfl, hs⟩ := pI_some hs
    obtain rfl := go_inl hs
    exact lv_imul hx hb hd (nx _ _ hex (okS_c okV_i (okS_t (okS_t hos))))
  | iand =>
    simp only [good, Bool.and_eq_true, decide_eq_true_eq] at hg
    obtain ⟨-, rfl⟩ := hg
    rw [Nat.add_sub_cancel_left] at hd
    obtain ⟨y, r1, rfl, hs⟩ := pI_some hs
    obtain ⟨x, r2, rfl, hs⟩ := pI_some hs
    obtain rfl := go_inl hs
    exact lv_iand hx hb hd (nx _ _ hex (okS_c okV_i (okS_t (okS_t hos))))
  | ior =>
    simp only [good, Bool.and_eq_true, decide_eq_true_eq] at hg
    obtain ⟨-, rfl⟩ := hg
    rw [Nat.add_sub_cancel_left] at hd
    obtain ⟨y, r1, rfl, hs⟩ := pI_some hs
    obtain ⟨x, r2, rfl, hs⟩ := pI_some hs
    obtain rfl := go_inl hs
    exact lv_ior hx hb hd (nx _ _ hex (okS_c okV_i (okS_t (okS_t hos))))
  | ishl =>
    simp only [good, Bool.and_eq_true, decide_eq_true_eq] at hg
    obtain ⟨-, rfl⟩ := hg
    rw [Nat.add_sub_cancel_left] at hd
    obtain ⟨y, r1, rfl, hs⟩ := pI_some hs
    obtain ⟨x, r2, rfl, hs⟩ := pI_some hs
    obtain rfl := go_inl hs
    exact lv_ishl hx hb hd (nx _ _ hex (okS_c okV_i (okS_t (okS_t hos))))
  | ishr =>
    simp only [good, Bool.and_eq_true, decide_eq_true_eq] at hg
    obtain ⟨-, rfl⟩ := hg
    rw [Nat.add_sub_cancel_left] at hd
    obtain ⟨y, r1, rfl, hs⟩ := pI_some hs
    obtain ⟨x, r2, rfl, hs⟩ := pI_some hs
    obtain rfl := go_inl hs
    exact lv_ishr hx hb hd (nx _ _ hex (okS_c okV_i (okS_t (okS_t hos))))
  | idiv =>
    simp only [good, Bool.and_eq_true, decide_eq_true_eq] at hg
    obtain ⟨-, rfl⟩ := hg
    rw [Nat.add_sub_cancel_left] at hd
    obtain ⟨y, r1, rfl, hs⟩ := pI_some hs
    obtain ⟨x, r2, rfl, hs⟩ := pI_some hs
    obtain ⟨h1, hs⟩ := gd_some hs
    obtain rfl := go_inl hs
    exact lv_idiv hx hb hd h1 (nx _ _ hex (okS_c okV_i (okS_t (okS_t hos))))
  | irem =>
    simp only [good, Bool.and_eq_true, decide_eq_true_eq] at hg
    obtain ⟨-, rfl⟩ := hg
    rw [Nat.add_sub_cancel_left] at hd
    obtain ⟨y, r1, rfl, hs⟩ := pI_some hs
    obtain ⟨x, r2, rfl, hs⟩ := pI_some hs
    obtain ⟨h1, hs⟩ := gd_some hs
    obtain rfl := go_inl hs
    exact lv_irem hx hb hd h1 (nx _ _ hex (okS_c okV_i (okS_t (okS_t hos))))
  | lmul =>
    simp only [good, Bool.and_eq_true, decide_eq_true_eq] at hg
    obtain ⟨-, rfl⟩ := hg
    rw [Nat.add_sub_cancel_left] at hd
    obtain ⟨y, r1, rfl, hs⟩ := pG_some hs
    obtain ⟨x, r2, rfl, hs⟩ := pG_some hs
    obtain rfl := go_inl hs
    exact lv_lmul hx hb hd (nx _ _ hex (okS_c okV_l (okS_t (okS_t hos))))
  | lrem =>
    simp only [good, Bool.and_eq_true, decide_eq_true_eq] at hg
    obtain ⟨-, rfl⟩ := hg
    rw [Nat.add_sub_cancel_left] at hd
    obtain ⟨y, r1, rfl, hs⟩ := pG_some hs
    obtain ⟨x, r2, rfl, hs⟩ := pG_some hs
    obtain ⟨h1, hs⟩ := gd_some hs
    obtain rfl := go_inl hs
    exact lv_lrem hx hb hd h1 (nx _ _ hex (okS_c okV_l (okS_t (okS_t hos))))
  | i2l =>
    simp only [good, Bool.and_eq_true, decide_eq_true_eq] at hg
    obtain ⟨-, rfl⟩ := hg
    rw [Nat.add_sub_cancel_left] at hd
    obtain ⟨y, r1, rfl, hs⟩ := pI_some hs
    obtain rfl := go_inl hs
    exact lv_i2l hx hb hd rfl (nx _ _ hex (okS_c okV_l (okS_t hos)))
  | l2i =>
    simp only [good, Bool.and_eq_true, decide_eq_true_eq] at hg
    obtain ⟨-, rfl⟩ := hg
    rw [Nat.add_sub_cancel_left] at hd
    obtain ⟨y, r1, rfl, hs⟩ := pG_some hs
    obtain rfl := go_inl hs
    exact lv_l2i hx hb hd rfl (nx _ _ hex (okS_c okV_i (okS_t hos)))
  | i2c =>
    simp only [good, Bool.and_eq_true, decide_eq_true_eq] at hg
    obtain ⟨-, rfl⟩ := hg
    rw [Nat.add_sub_cancel_left] at hd
    obtain ⟨y, r1, rfl, hs⟩ := pI_some hs
    obtain rfl := go_inl hs
    exact lv_i2c hx hb hd rfl (nx _ _ hex (okS_c okV_i (okS_t hos)))
  | i2f =>
    simp only [good, Bool.and_eq_true, decide_eq_true_eq] at hg
    obtain ⟨-, rfl⟩ := hg
    rw [Nat.add_sub_cancel_left] at hd
    obtain ⟨y, r1, rfl, hs⟩ := pI_some hs
    obtain rfl := go_inl hs
    exact lv_i2f hx hb hd (nx _ _ hex (okS_c okV_f (okS_t hos)))
  | f2i =>
    simp only [good, Bool.and_eq_true, decide_eq_true_eq] at hg
    obtain ⟨-, rfl⟩ := hg
    rw [Nat.add_sub_cancel_left] at hd
    obtain ⟨y, r1, rfl, hs⟩ := pF_some hs
    obtain rfl := go_inl hs
    exact lv_f2i hx hb hd (nx _ _ hex (okS_c okV_i (okS_t hos)))
  | fmul =>
    simp only [good, Bool.and_eq_true, decide_eq_true_eq] at hg
    obtain ⟨-, rfl⟩ := hg
    rw [Nat.add_sub_cancel_left] at hd
    obtain ⟨y, r1, rfl, hs⟩ := pF_some hs
    obtain ⟨x, r2, rfl, hs⟩ := pF_some hs
    obtain ⟨h1, hs⟩ := gd_some hs
    obtain rfl := go_inl hs
    exact lv_fmul hx hb hd (by simpa [nn32, vf_n32] using h1) (nx _ _ hex (okS_c okV_f (okS_t (okS_t hos))))
  | fdiv =>
    simp only [good, Bool.and_eq_true, decide_eq_true_eq] at hg
    obtain ⟨-, rfl⟩ := hg
    rw [Nat.add_sub_cancel_left] at hd
    obtain ⟨y, r1, rfl, hs⟩ := pF_some hs
    obtain ⟨x, r2, rfl, hs⟩ := pF_some hs
    obtain ⟨h1, hs⟩ := gd_some hs
    obtain rfl := go_inl hs
    exact lv_fdiv hx hb hd (by simpa [nn32, vf_n32] using h1) (nx _ _ hex (okS_c okV_f (okS_t (okS_t hos))))
  | fsub =>
    simp only [good, Bool.and_eq_true, decide_eq_true_eq] at hg
    obtain ⟨-, rfl⟩ := hg
    rw [Nat.add_sub_cancel_left] at hd
    obtain ⟨y, r1, rfl, hs⟩ := pF_some hs
    obtain ⟨x, r2, rfl, hs⟩ := pF_some hs
    obtain ⟨h1, hs⟩ := gd_some hs
    obtain rfl := go_inl hs
    exact lv_fsub hx hb hd (by simpa [nn32, vf_n32] using h1) (nx _ _ hex (okS_c okV_f (okS_t (okS_t hos))))
  | fcmp op =>
    simp only [good, Bool.and_eq_true, decide_eq_true_eq] at hg
    obtain ⟨-, rfl⟩ := hg
    rw [Nat.add_sub_cancel_left] at hd
    obtain ⟨y, r1, rfl, hs⟩ := pF_some hs
    obtain ⟨x, r2, rfl, hs⟩ := pF_some hs
    obtain rfl := go_inl hs
    exact lv_fcmp hx hb hd (nx _ _ hex (okS_c okV_i (okS_t (okS_t hos))))
  | dup =>
    simp only [good, Bool.and_eq_true, decide_eq_true_eq] at hg
    obtain ⟨-, rfl⟩ := hg
    rw [Nat.add_sub_cancel_left] at hd
    simp only [stA] at hs
    obtain ⟨v, r1, rfl, hc, hs⟩ := pV_some hs
    obtain rfl := go_inl hs
    exact lv_dup hx hb hd (cat_amap.trans hc) (nx _ _ hex (okS_c (okS_h hos) hos))
  | dup2 =>
    simp only [good, Bool.and_eq_true, decide_eq_true_eq] at hg
    obtain ⟨-, rfl⟩ := hg
    rw [Nat.add_sub_cancel_left] at hd
    simp only [stA] at hs
    obtain ⟨v, r1, rfl, hc, hs⟩ := pV_some hs
    obtain ⟨u, r2, rfl, hc2, hs⟩ := pV_some hs
    obtain rfl := go_inl hs
    exact lv_dup2_11 hx hb hd (cat_amap.trans hc) (cat_amap.trans hc2) (nx _ _ hex (okS_c (okS_h hos) (okS_c (okS_h (okS_t hos)) hos)))
  | pop =>
    simp only [good, Bool.and_eq_true, decide_eq_true_eq] at hg
    obtain ⟨-, rfl⟩ := hg
    rw [Nat.add_sub_cancel_left] at hd
    simp only [stA] at hs
    obtain ⟨v, r1, rfl, hc, hs⟩ := pV_some hs
    obtain rfl := go_inl hs
    exact lv_pop hx hb hd (cat_amap.trans hc) (nx _ _ hex (okS_t hos))
  | goto o =>
    simp only [good, Bool.and_eq_true, decide_eq_true_eq] at hg
    obtain ⟨-, rfl, ho⟩ := hg
    rw [Nat.add_sub_cancel_left] at hd
    obtain rfl := go_inl hs
    exact lv_goto hx hb hd (of_decide_eq_true ho) (nx _ _ hex hos)
  | if_icmp cc o =>
    simp only [good, Bool.and_eq_true, decide_eq_true_eq] at hg
    obtain ⟨-, rfl, ho⟩ := hg
    rw [Nat.add_sub_cancel_left] at hd
    obtain ⟨y, r1, rfl, hs⟩ := pI_some hs
    obtain ⟨x, r2, rfl, hs⟩ := pI_some hs
    obtain rfl := go_inl hs
    have ho := of_decide_eq_true ho
    have hex : exec f m (br32 cc x y a (pc + 3)) ls r2 σ M = some (r, σ1, M1) := hex
    have hos2 : okS σ r2 := okS_t (okS_t hos)
    cases cc with
    | eq => exact lv_icmp_eq hx hb hd ho (fun hc => nx _ _ (by rw [br_eq_t hc] at hex; exact hex) hos2) (fun hc => nx _ _ (by rw [br_eq_f hc] at hex; exact hex) hos2)
    | ne => exact lv_icmp_ne hx hb hd ho (fun hc => nx _ _ (by rw [br_ne_t hc] at hex; exact hex) hos2) (fun hc => nx _ _ (by rw [br_ne_f hc] at hex; exact hex) hos2)
    | lt => exact lv_icmp_lt hx hb hd ho (fun hc => nx _ _ (by rw [br_lt_t hc] at hex; exact hex) hos2) (fun hc => nx _ _ (by rw [br_lt_f hc] at hex; exact hex) hos2)
    | ge => exact lv_icmp_ge hx hb hd ho (fun hc => nx _ _ (by rw [br_ge_t hc] at hex; exact hex) hos2) (fun hc => nx _ _ (by rw [br_ge_f hc] at hex; exact hex) hos2)
    | gt => exact lv_icmp_gt hx hb hd ho (fun hc => nx _ _ (by rw [br_gt_t hc] at hex; exact hex) hos2) (fun hc => nx _ _ (by rw [br_gt_f hc] at hex; exact hex) hos2)
    | le => exact lv_icmp_le hx hb hd ho (fun hc => nx _ _ (by rw [br_le_t hc] at hex; exact hex) hos2) (fun hc => nx _ _ (by rw [br_le_f hc] at hex; exact hex) hos2)
  | ifCond cc o =>
    simp only [good, Bool.and_eq_true, decide_eq_true_eq] at hg
    obtain ⟨-, rfl, ho⟩ := hg
    rw [Nat.add_sub_cancel_left] at hd
    obtain ⟨x, r1, rfl, hs⟩ := pI_some hs
    obtain rfl := go_inl hs
    have ho := of_decide_eq_true ho
    have hex : exec f m (br32 cc x 0 a (pc + 3)) ls r1 σ M = some (r, σ1, M1) := hex
    have hos2 : okS σ r1 := okS_t hos
    cases cc with
    | eq => exact lv_if_eq hx hb hd ho (fun hc => nx _ _ (by rw [br_eq_t hc] at hex; exact hex) hos2) (fun hc => nx _ _ (by rw [br_eq_f hc] at hex; exact hex) hos2)
    | ne => exact lv_if_ne hx hb hd ho (fun hc => nx _ _ (by rw [br_ne_t hc] at hex; exact hex) hos2) (fun hc => nx _ _ (by rw [br_ne_f hc] at hex; exact hex) hos2)
    | lt => exact lv_if_lt hx hb hd ho (fun hc => nx _ _ (by rw [br_lt_t hc] at hex; exact hex) hos2) (fun hc => nx _ _ (by rw [br_lt_f hc] at hex; exact hex) hos2)
    | ge => exact lv_if_ge hx hb hd ho (fun hc => nx _ _ (by rw [br_ge_t hc] at hex; exact hex) hos2) (fun hc => nx _ _ (by rw [br_ge_f hc] at hex; exact hex) hos2)
    | gt => exact lv_if_gt hx hb hd ho (fun hc => nx _ _ (by rw [br_gt_t hc] at hex; exact hex) hos2) (fun hc => nx _ _ (by rw [br_gt_f hc] at hex; exact hex) hos2)
    | le => exact lv_if_le hx hb hd ho (fun hc => nx _ _ (by rw [br_le_t hc] at hex; exact hex) hos2) (fun hc => nx _ _ (by rw [br_le_f hc] at hex; exact hex) hos2)
  | ifnull o =>
    simp only [good, Bool.and_eq_true, decide_eq_true_eq] at hg
    obtain ⟨-, rfl, ho⟩ := hg
    rw [Nat.add_sub_cancel_left] at hd
    obtain ⟨x, r1, rfl, hs⟩ := pR_some hs
    obtain rfl := go_inl hs
    exact lv_ifnull hx hb hd (nx _ _ hex (okS_t hos))
  | ifnonnull o =>
    simp only [good, Bool.and_eq_true, decide_eq_true_eq] at hg
    obtain ⟨-, rfl, ho⟩ := hg
    rw [Nat.add_sub_cancel_left] at hd
    obtain ⟨x, r1, rfl, hs⟩ := pR_some hs
    obtain rfl := go_inl hs
    exact lv_ifnonnull hx hb hd (of_decide_eq_true ho) (nx _ _ hex (okS_t hos))
  | lookupswitch df ps =>
    simp only [good, Bool.and_eq_true, decide_eq_true_eq] at hg
    obtain ⟨-, ⟨ho, hls⟩, hp⟩ := hg
    obtain ⟨x, r1, rfl, hs⟩ := pI_some hs
    obtain rfl := go_inl hs
    exact lv_lookup hx hb hd hp rfl (swT_ls (of_decide_eq_true ho) hls) (nx _ _ hex (okS_t hos))
  | tableswitch df lo hi offs =>
    simp only [good, Bool.and_eq_true, decide_eq_true_eq] at hg
    obtain ⟨-, ho, hts2⟩ := hg
    obtain ⟨x, r1, rfl, hs⟩ := pI_some hs
    obtain rfl := go_inl hs
    simp only [tswOk, Bool.and_eq_true, decide_eq_true_eq, List.all_eq_true, List.mem_range] at hts2
    obtain ⟨⟨⟨⟨h1, h2⟩, -⟩, -⟩, h5⟩ := hts2
    have hw := swT_ts (x := x) (d := a) (sw := sw) (lo := lo) (fun i hi => (h5 i (by omega)).1)
    rw [h1] at hw
    rw [← h2] at hw
    by_cases hr : x.toInt < lo ∨ hi < x.toInt
    · have e := hw.1 hr
      refine lv_tableOut hx hb hd hr (of_decide_eq_true ho) (nx a _ ?_ (okS_t hos))
      have hex : exec f m (swT sw a x) ls r1 σ M = some (r, σ1, M1) := hex
      rw [e] at hex
      exact hex
    · have n1 : ¬ x.toInt < lo := fun q => hr (Or.inl q)
      have n2 : ¬ hi < x.toInt := fun q => hr (Or.inr q)
      have e := hw.2 n1 n2
      have hlt : (x.toInt - lo).toNat < offs.size := by omega
      have e2 := (h5 _ hlt).2
      obtain ⟨q, hq, hq2⟩ := Option.map_eq_some_iff.mp e
      rw [hq, Array.getElem?_eq_getElem hlt] at e2
      simp only [Option.map_some, Option.some.injEq] at e2
      refine lv_tableIn hx hb hd n1 n2 (Array.getElem?_eq_getElem hlt) (tgt := swT sw a x) ?_ (nx _ _ hex (okS_t hos))
      rw [← e2, hq2]
  | _ => first | exact Bool.noConfusion (show true = false from hh) | (exact absurd hs (by simp [stA]))
end
section
theorem rng_get {N k : Nat} {g : Nat → Value} (h : k < N) : ((List.range N).map g)[k]? = some (g k) := by simp [h]
theorem rng_set {N k : Nat} {g g2 : Nat → Value} {v : Value} (hk : g2 k = v) (ho : ∀ j, j ≠ k → g2 j = g j) : (List.range N).map g2 = ((List.range N).map g).set k v := by
  apply List.ext_getElem?
  intro i
  rw [List.getElem?_set]
  by_cases hi : i < N
  · by_cases h : k = i
    · subst h
      simp [hi, hk]
    · rw [if_neg h]
      simp [hi, ho i (fun q => h q.symm)]
  · by_cases h : k = i
    · subst h
      simp [hi]
    · rw [if_neg h]
      simp [hi]
theorem va_f_get {N k : Nat} {g : Nat → Value} (h : k < N) : vp_V ((List.range N).map g) k = g k := by simp [vp_V, h]
theorem sR_set {σ : Sg} {o : Nat} {f : Nat → Option Nat} : sR (setR σ o f) = upM (sR σ) o f := rfl
theorem sT_set {σ : Sg} {o : Nat} {f : Nat → Option Nat} : sT (setR σ o f) = sT σ := rfl
theorem sL_set {σ : Sg} {o : Nat} {f : Nat → Option Nat} : sL (setR σ o f) = sL σ := rfl
theorem sN_set {σ : Sg} {o : Nat} {f : Nat → Option Nat} : sN (setR σ o f) = sN σ := rfl
theorem fld_cls {ad : Nat → Nat} {R : Option Nat} {x : Int32} {t : FieldType} (h : tcv t ≠ .null) : fldV ad R x (tcv t) = .int x := by
  cases t <;> first | rfl | exact absurd rfl h
/-- an int goes into a field of an int's or a boolean's type as it is -/
theorem put_nar {t : FieldType} {x : Int32} (h : tcv t ≠ .null) (hp : putI (tcv t) x = true) : narrow t (.int x) = .int x ∧ fits t (.int x) = true := by
  cases t with
  | int => exact ⟨rfl, rfl⟩
  | boolean =>
    have h2 : x = 0 ∨ x = 1 := by
      have h3 : okB x = true := by simpa [tcv, putI, show ¬ nI 1 = 0 from by decide] using hp
      simpa [okB] using h3
    rcases h2 with rfl | rfl <;> exact ⟨rfl, rfl⟩
  | _ => exact absurd rfl h
theorem put_ref {t : FieldType} {v : Nat} (ht : t.isReference = true) : narrow t (.ref v) = .ref v ∧ fits t (.ref v) = true := by
  cases t <;> first | exact absurd ht (by decide) | exact ⟨rfl, rfl⟩
theorem ZU.kM {G : PG} {ad : Nat → Nat} {σ σ2 : Sg} {M M2 : Mem} {U : State} {H : Heap} {o : Nat} (h : ZU G ad σ M U H) (ho : sT σ o ≠ 9) (hT : sT σ2 = sT σ) (hL : sL σ2 = sL σ) (hM : ∀ i, i ≠ o → M2 i = M i) : ZU G ad σ2 M2 U H :=
  h.to (fun i => by rw [hT]) (fun i hi => ⟨rfl, by rw [hL], hM i (fun q => ho (by rw [← q]; exact hi))⟩)
theorem okV_t {σ σ2 : Sg} (hN : sN σ ≤ sN σ2) (hT : ∀ i, sT σ i = 9 → sT σ2 i = 9) {v : Value} (h : okV σ v) : okV σ2 v := fun j hj => (h j hj).elim (fun q => Or.inl (Nat.lt_of_lt_of_le q hN)) (fun q => Or.inr (hT j q))
theorem okS_to {σ σ2 : Sg} (hN : sN σ ≤ sN σ2) (hT : ∀ i, sT σ i = 9 → sT σ2 i = 9) {st : List Value} (h : okS σ st) : okS σ2 st := fun v hv => okV_t hN hT (h v hv)
theorem okL_to {σ σ2 : Sg} (hN : sN σ ≤ sN σ2) (hT : ∀ i, sT σ i = 9 → sT σ2 i = 9) {ls : Lcl} (h : okL σ ls) : okL σ2 ls := fun k v hv => okV_t hN hT (h k v hv)
theorem cw_M {G : PG} {ad : Nat → Nat} {σ : Sg} {M : Mem} {o : Nat} {f : Nat → Int32} {E : va_E} (hE : ent G ad σ (upM M o f) o = E) : cw G ad σ (upM M o f) = (cw G ad σ M).set o (ad o, E) :=
  cw_set rfl hE (fun i hi => ent_same rfl rfl (upM_n hi) (fun _ => rfl))
theorem cw_R {G : PG} {ad : Nat → Nat} {σ : Sg} {M : Mem} {o : Nat} {f : Nat → Option Nat} {E : va_E} (hE : ent G ad (setR σ o f) M o = E) : cw G ad (setR σ o f) M = (cw G ad σ M).set o (ad o, E) :=
  cw_set rfl hE (fun i hi => ent_same rfl rfl rfl (fun k => by rw [sR_set, upM_n hi]))
theorem wf_M {σ : Sg} (h : wfS σ) {o k v : Nat} (hv : v < sN σ) : wfS (setR σ o (upM (sR σ o) k (some v))) := by
  refine ⟨fun i j q hq => ?_, h.2⟩
  rw [sR_set] at hq
  unfold upM at hq
  split at hq
  · dsimp only at hq
    split at hq
    · cases hq; exact hv
    · exact h.1 o j q hq
  · exact h.1 i j q hq
set_option maxHeartbeats 4000000 in
theorem fs_getfield {f : Nat} (ih : FS f) (idx : Nat) : FSat f (.getfield idx) := by
  intro m pc npc a b d w cv sw ls st σ M r σ1 M1 he hex G p l e R s mid args below meth c Q hC ad H locs cells slots lsr hY hcl hsl hE
  obtain ⟨hx, hb, hml, hown, hts, hKU, hini, hfr, hlo, hz⟩ := id hC
  obtain ⟨⟨hP, hD⟩, hZ, hS, hwf, hos, hol, hl, hlen⟩ := id hY
  have hg := fe_good he
  have hk := fe_link he
  have hd := dec_of_good hg
  rw [exec, he] at hex
  dsimp only at hex
  simp only [good, Bool.and_eq_true, decide_eq_true_eq] at hg
  have nx : ∀ (pc1 : Nat) (st1 : List Value), exec f m pc1 ls st1 σ M = some (r, σ1, M1) → okS σ st1 → W p l e R s mid args below meth c H locs cells slots Q (F0 mid pc1 lsr (st1.map (amap ad))) := fun pc1 st1 h1 h2 => ih m pc1 ls st1 σ M r σ1 M1 h1 G p l e R s mid args below meth c Q hC ad H locs cells slots lsr ⟨⟨hP, hD⟩, hZ, hS, hwf, h2, hol, hl, hlen⟩ hcl hsl hE
  cases hs : stA (.getfield idx) npc a b d cv sw ls st σ M with
  | none => rw [hs] at hex; cases hex
  | some res =>
  rw [hs] at hex
  obtain ⟨-, ⟨rfl, h10, h8, hbN⟩, rfl⟩ := hg
  rw [Nat.add_sub_cancel_left] at hd
  obtain ⟨o, r1, rfl, hs⟩ := pR_some hs
  obtain ⟨ht, hs⟩ := gd_some hs
  obtain rfl := go_inl hs
  have ho : o < sN σ := okA_obj (okS_h hos o rfl) (by omega)
  have hcw := cw_get (G := G) (ad := ad) (M := M) ho
  rw [ent_obj ht h10] at hcw
  simp only [LkP, FL] at hk
  have hne : okS σ (getF (tcv (cY (a - 10) b)) (sR σ o b) (M o b) :: r1) := okS_c (fun j hj => Or.inl (hwf.1 o b j (by
    unfold getF at hj
    split at hj
    · cases hq : sR σ o b with
      | none => rw [hq] at hj; cases hj
      | some z => rw [hq] at hj; cases hj; rfl
    · cases hj))) (okS_t hos)
  have key := nx (pc + 3) _ hex hne
  rw [List.map_cons, getF_map] at key
  split at hk
  · exact va_get (D := G.1) (ci := a - 10) (C := cN (a - 10)) (T := cT (a - 10)) (N := cF (a - 10)) hx hb hts (uw_ok _ h8) hown hKU.1 hP o hcw (vw_ok _ h8) b hbN (hts _ (lwG_of hk rfl)) (fun _ h9 => h9) (rng_get hbN) hd key
  · exact va_getN (D := G.1) (ci := a - 10) (C := cN (a - 10)) (T := cT (a - 10)) (N := cF (a - 10)) hx hb hts (uw_ok _ h8) hown hKU.1 hP o hcw (vw_ok _ h8) b hbN (va_Nw.use rfl (hKU.2.1 _ _ _ _ _ _ hk)) (fun _ h9 => h9) (rng_get hbN) hd key
set_option maxHeartbeats 4000000 in
theorem fs_putfield {f : Nat} (ih : FS f) (idx : Nat) : FSat f (.putfield idx) := by
  intro m pc npc a b d w cv sw ls st σ M r σ1 M1 he hex G p l e R s mid args below meth c Q hC ad H locs cells slots lsr hY hcl hsl hE
  obtain ⟨hx, hb, hml, hown, hts, hKU, hini, hfr, hlo, hz⟩ := id hC
  obtain ⟨⟨hP, hD⟩, hZ, hS, hwf, hos, hol, hl, hlen⟩ := id hY
  have hg := fe_good he
  have hk := fe_link he
  have hd := dec_of_good hg
  rw [exec, he] at hex
  dsimp only at hex
  simp only [good, Bool.and_eq_true, decide_eq_true_eq] at hg
  cases hs : stA (.putfield idx) npc a b d cv sw ls st σ M with
  | none => rw [hs] at hex; cases hex
  | some res =>
  rw [hs] at hex
  obtain ⟨-, ⟨rfl, h10, h8, hbN⟩, rfl⟩ := hg
  rw [Nat.add_sub_cancel_left] at hd
  simp only [stA, putF] at hs
  split at hs
  · rename_i hnn
    obtain ⟨v, r1, e1, hs1⟩ := pR_some hs
    obtain ⟨o, r2, e2, hs2⟩ := pR_some hs1
    subst e2
    subst e1
    obtain ⟨⟨ht, hv9⟩, hs3⟩ := gd_some hs2
    obtain rfl := go_inl hs3
    have hv : v < sN σ := okA_obj (okS_h hos v rfl) hv9
    have hnf := put_ref (t := cY (a - 10) b) (v := ad v) (rf_ok _ h8 b hbN hnn)
    have ho : o < sN σ := okA_obj (okS_h (okS_t hos) o rfl) (by omega)
    have hcw := cw_get (G := G) (ad := ad) (M := M) ho
    rw [ent_obj ht h10] at hcw
    have hnew : cw G ad (setR σ o (upM (sR σ o) b (some v))) M = (cw G ad σ M).set o (ad o, .inr (a - 10, ((List.range (cF (a - 10))).map (fun k => fldV ad (sR σ o k) (M o k) (tcv (cY (a - 10) k)))).set b (.ref (ad v)))) := by
      refine cw_R ?_
      rw [ent_obj (t := a) (by rw [sT_set]; exact ht) h10]
      refine congrArg (fun q => (Sum.inr (a - 10, q) : va_E)) (rng_set ?_ (fun j hj => ?_))
      · rw [sR_set, upM_s, upM_s, hnn]; rfl
      · rw [sR_set, upM_s, upM_n hj]
    have key : ∀ (H1 : Heap) (locs1 : List Jvm.Loc), va_P G.1 vwCl ((cw G ad σ M).set o (ad o, .inr (a - 10, ((List.range (cF (a - 10))).map (fun k => fldV ad (sR σ o k) (M o k) (tcv (cY (a - 10) k)))).set b (.ref (ad v))))) H1 → va_D (AA G) ((cw G ad σ M).set o (ad o, .inr (a - 10, ((List.range (cF (a - 10))).map (fun k => fldV ad (sR σ o k) (M o k) (tcv (cY (a - 10) k)))).set b (.ref (ad v))))) → va_S (AA G) s.heap H1 locs1 → W p l e R s mid args below meth c H1 locs1 cells slots Q (F0 mid (pc + 3) lsr (r2.map (amap ad))) := by
      intro H1 locs1 q1 q2 q3
      rw [← hnew] at q1 q2
      exact ih m (pc + 3) ls r2 (setR σ o (upM (sR σ o) b (some v))) M r σ1 M1 hex G p l e R s mid args below meth c Q hC ad H1 locs1 cells slots lsr ⟨⟨q1, q2⟩, hZ.kM (o := o) (by omega) rfl rfl (fun i hi => rfl), q3, wf_M hwf hv, okS_t (okS_t hos), hol, hl, hlen⟩ hcl hsl hE
    simp only [LkP] at hk
    obtain ⟨hk1, hk2⟩ := hk
    simp only [FL] at hk1
    have hfs : b < ((List.range (cF (a - 10))).map (fun k => fldV ad (sR σ o k) (M o k) (tcv (cY (a - 10) k)))).length := by rw [List.length_map, List.length_range]; exact hbN
    unfold FI at hk2
    split at hk2
    · rename_i hfin
      obtain ⟨g1, g2, g3⟩ := hk2
      subst g3
      exact va_putF (D := G.1) (ci := a - 10) (C := cN (a - 10)) (T := cT (a - 10)) (N := cF (a - 10)) hx hb hts (uw_ok _ h8) (cY (a - 10)) (ty_ok _ h8) (nm_ok _ h8) hown hKU.1 hP hD hS o hcw (vw_ok _ h8) b hbN (hts _ (lwG_of hk1 rfl)) (fun _ h9 => h9) hfin (hini g1) g2 (ty_ok _ h8 b hbN) hnf.1 hnf.2 hfs hd key
    · rename_i hfin
      split at hk1
      · exact va_put (D := G.1) (ci := a - 10) (C := cN (a - 10)) (T := cT (a - 10)) (N := cF (a - 10)) hx hb hts (uw_ok _ h8) (cY (a - 10)) (ty_ok _ h8) (nm_ok _ h8) hown hKU.1 hP hD hS o hcw (vw_ok _ h8) b hbN (hts _ (lwG_of hk1 rfl)) (fun _ h9 => h9) hfin (ty_ok _ h8 b hbN) hnf.1 hnf.2 hfs hd key
      · exact va_putN (D := G.1) (ci := a - 10) (C := cN (a - 10)) (T := cT (a - 10)) (N := cF (a - 10)) hx hb hts (uw_ok _ h8) (cY (a - 10)) (ty_ok _ h8) (nm_ok _ h8) hown hKU.1 hP hD hS o hcw (vw_ok _ h8) b hbN (va_Nw.use rfl (hKU.2.1 _ _ _ _ _ _ hk1)) (fun _ h9 => h9) hfin (ty_ok _ h8 b hbN) hnf.1 hnf.2 hfs hd key
  · rename_i hnn
    have hnn : tcv (cY (a - 10) b) ≠ .null := hnn
    obtain ⟨x, r1, e1, hs1⟩ := pI_some hs
    obtain ⟨o, r2, e2, hs2⟩ := pR_some hs1
    subst e2
    subst e1
    obtain ⟨⟨ht, hpt⟩, hs3⟩ := gd_some hs2
    obtain rfl := go_inl hs3
    have hnf := put_nar hnn hpt
    have ho : o < sN σ := okA_obj (okS_h (okS_t hos) o rfl) (by omega)
    have hcw := cw_get (G := G) (ad := ad) (M := M) ho
    rw [ent_obj ht h10] at hcw
    have hnew : cw G ad σ (upM M o (upI (M o) b x)) = (cw G ad σ M).set o (ad o, .inr (a - 10, ((List.range (cF (a - 10))).map (fun k => fldV ad (sR σ o k) (M o k) (tcv (cY (a - 10) k)))).set b (.int x))) := by
      refine cw_M ?_
      rw [ent_obj (t := a) ht h10]
      refine congrArg (fun q => (Sum.inr (a - 10, q) : va_E)) (rng_set ?_ (fun j hj => ?_))
      · rw [upM_s, fld_cls hnn]; exact congrArg Value.int (if_pos rfl)
      · rw [upM_s]; simp only [upI, if_neg hj]
    have key : ∀ (H1 : Heap) (locs1 : List Jvm.Loc), va_P G.1 vwCl ((cw G ad σ M).set o (ad o, .inr (a - 10, ((List.range (cF (a - 10))).map (fun k => fldV ad (sR σ o k) (M o k) (tcv (cY (a - 10) k)))).set b (.int x)))) H1 → va_D (AA G) ((cw G ad σ M).set o (ad o, .inr (a - 10, ((List.range (cF (a - 10))).map (fun k => fldV ad (sR σ o k) (M o k) (tcv (cY (a - 10) k)))).set b (.int x)))) → va_S (AA G) s.heap H1 locs1 → W p l e R s mid args below meth c H1 locs1 cells slots Q (F0 mid (pc + 3) lsr (r2.map (amap ad))) := by
      intro H1 locs1 q1 q2 q3
      rw [← hnew] at q1 q2
      exact ih m (pc + 3) ls r2 σ (upM M o (upI (M o) b x)) r σ1 M1 hex G p l e R s mid args below meth c Q hC ad H1 locs1 cells slots lsr ⟨⟨q1, q2⟩, hZ.kM (o := o) (by omega) rfl rfl (fun i hi => upM_n hi), q3, hwf, okS_t (okS_t hos), hol, hl, hlen⟩ hcl hsl hE
    simp only [LkP] at hk
    obtain ⟨hk1, hk2⟩ := hk
    simp only [FL] at hk1
    have hfs : b < ((List.range (cF (a - 10))).map (fun k => fldV ad (sR σ o k) (M o k) (tcv (cY (a - 10) k)))).length := by rw [List.length_map, List.length_range]; exact hbN
    unfold FI at hk2
    split at hk2
    · rename_i hfin
      obtain ⟨g1, g2, g3⟩ := hk2
      subst g3
      exact va_putF (D := G.1) (ci := a - 10) (C := cN (a - 10)) (T := cT (a - 10)) (N := cF (a - 10)) hx hb hts (uw_ok _ h8) (cY (a - 10)) (ty_ok _ h8) (nm_ok _ h8) hown hKU.1 hP hD hS o hcw (vw_ok _ h8) b hbN (hts _ (lwG_of hk1 rfl)) (fun _ h9 => h9) hfin (hini g1) g2 (ty_ok _ h8 b hbN) hnf.1 hnf.2 hfs hd key
    · rename_i hfin
      split at hk1
      · exact va_put (D := G.1) (ci := a - 10) (C := cN (a - 10)) (T := cT (a - 10)) (N := cF (a - 10)) hx hb hts (uw_ok _ h8) (cY (a - 10)) (ty_ok _ h8) (nm_ok _ h8) hown hKU.1 hP hD hS o hcw (vw_ok _ h8) b hbN (hts _ (lwG_of hk1 rfl)) (fun _ h9 => h9) hfin (ty_ok _ h8 b hbN) hnf.1 hnf.2 hfs hd key
      · exact va_putN (D := G.1) (ci := a - 10) (C := cN (a - 10)) (T := cT (a - 10)) (N := cF (a - 10)) hx hb hts (uw_ok _ h8) (cY (a - 10)) (ty_ok _ h8) (nm_ok _ h8) hown hKU.1 hP hD hS o hcw (vw_ok _ h8) b hbN (va_Nw.use rfl (hKU.2.1 _ _ _ _ _ _ hk1)) (fun _ h9 => h9) hfin (ty_ok _ h8 b hbN) hnf.1 hnf.2 hfs hd key
end
section
set_option maxHeartbeats 4000000 in
theorem fs_getstatic {f : Nat} (ih : FS f) (idx : Nat) : FSat f (.getstatic idx) := by
  intro m pc npc a b d w cv sw ls st σ M r σ1 M1 he hex G p l e R s mid args below meth c Q hC ad H locs cells slots lsr hY hcl hsl hE
  obtain ⟨hx, hb, hml, hown, hts, hKU, hini, hfr, hlo, hz⟩ := id hC
  obtain ⟨⟨hP, hD⟩, hZ, hS, hwf, hos, hol, hl, hlen⟩ := id hY
  have hg := fe_good he
  have hk := fe_link he
  have hd := dec_of_good hg
  rw [exec, he] at hex
  dsimp only at hex
  simp only [good, Bool.and_eq_true, decide_eq_true_eq] at hg
  have nx : ∀ (pc1 : Nat) (st1 : List Value), exec f m pc1 ls st1 σ M = some (r, σ1, M1) → okS σ st1 → W p l e R s mid args below meth c H locs cells slots Q (F0 mid pc1 lsr (st1.map (amap ad))) := fun pc1 st1 h1 h2 => ih m pc1 ls st1 σ M r σ1 M1 h1 G p l e R s mid args below meth c Q hC ad H locs cells slots lsr ⟨⟨hP, hD⟩, hZ, hS, hwf, h2, hol, hl, hlen⟩ hcl hsl hE
  cases hs : stA (.getstatic idx) npc a b d cv sw ls st σ M with
  | none => rw [hs] at hex; cases hex
  | some res =>
  rw [hs] at hex
  obtain ⟨-, rfl, h1, h2⟩ := hg
  rw [Nat.add_sub_cancel_left] at hd
  obtain rfl := go_inl hs
  have hok : okA σ a := by
    rcases (show a = 1000 ∨ a = 1001 ∨ a = 1002 by omega) with rfl | rfl | rfl
    · exact Or.inr hZ.2.1.1
    · exact Or.inr hZ.2.2.1.1
    · exact Or.inr hZ.2.2.2.1
  have key := nx (pc + 3) _ hex (okS_c (okV_r hok) hos)
  have hz1 : va_Z "AntTrails" (stN a) "[I" (.ref (ad a)) (AA G) s s.heap := by
    rcases (show a = 1000 ∨ a = 1001 ∨ a = 1002 by omega) with rfl | rfl | rfl
    · exact hZ.2.1.2
    · exact hZ.2.2.1.2
    · exact hZ.2.2.2.2
  simp only [LkP] at hk
  split at hk
  · exact va_gets hx hb hz1 hS hown (hts _ (lwG_of hk rfl)) (fun _ h9 => h9) hd key
  · exact va_getsN hx hb hz1 hS hown (va_Nw.use rfl (hKU.2.1 _ _ _ _ _ _ hk)) (fun _ h9 => h9) hd key
set_option maxHeartbeats 4000000 in
theorem fs_arraylength {f : Nat} (ih : FS f) : FSat f (.arraylength) := by
  intro m pc npc a b d w cv sw ls st σ M r σ1 M1 he hex G p l e R s mid args below meth c Q hC ad H locs cells slots lsr hY hcl hsl hE
  obtain ⟨hx, hb, hml, hown, hts, hKU, hini, hfr, hlo, hz⟩ := id hC
  obtain ⟨⟨hP, hD⟩, hZ, hS, hwf, hos, hol, hl, hlen⟩ := id hY
  have hg := fe_good he
  have hk := fe_link he
  have hd := dec_of_good hg
  rw [exec, he] at hex
  dsimp only at hex
  simp only [good, Bool.and_eq_true, decide_eq_true_eq] at hg
  have nx : ∀ (pc1 : Nat) (st1 : List Value), exec f m pc1 ls st1 σ M = some (r, σ1, M1) → okS σ st1 → W p l e R s mid args below meth c H locs cells slots Q (F0 mid pc1 lsr (st1.map (amap ad))) := fun pc1 st1 h1 h2 => ih m pc1 ls st1 σ M r σ1 M1 h1 G p l e R s mid args below meth c Q hC ad H locs cells slots lsr ⟨⟨hP, hD⟩, hZ, hS, hwf, h2, hol, hl, hlen⟩ hcl hsl hE
  cases hs : stA (.arraylength) npc a b d cv sw ls st σ M with
  | none => rw [hs] at hex; cases hex
  | some res =>
  rw [hs] at hex
  obtain ⟨-, rfl⟩ := hg
  rw [Nat.add_sub_cancel_left] at hd
  obtain ⟨o, r1, e1, hs1⟩ := pR_some hs
  subst e1
  obtain ⟨ht, hs2⟩ := gd_some hs1
  obtain rfl := go_inl hs2
  have key := nx (pc + 1) _ hex (okS_c okV_i (okS_t hos))
  by_cases h9 : sT σ o = 9
  · exact va_tlen hx hb (hZ.1 o h9) hS rfl hd key
  · have ho : o < sN σ := okA_obj (okS_h hos o rfl) h9
    have hcw := cw_get (G := G) (ad := ad) (M := M) ho
    have h3 : sT σ o = 0 ∨ sT σ o = 1 ∨ sT σ o = 2 := by
      simp only [isAr, Bool.or_eq_true, beq_iff_eq] at ht
      omega
    rcases h3 with h | h | h
    · rw [ent_0 h] at hcw
      exact va_alen hx hb hKU.1 hP o 0 hcw (ty := .int) rfl rfl hd key
    · rw [ent_1 h] at hcw
      exact va_alen hx hb hKU.1 hP o 1 hcw (ty := .char) rfl rfl hd key
    · rw [ent_2 h] at hcw
      exact va_alen hx hb hKU.1 hP o 2 hcw (ty := .object "AntTrails$Ground") rfl rfl hd key
set_option maxHeartbeats 4000000 in
theorem fs_iaload {f : Nat} (ih : FS f) : FSat f (.iaload) := by
  intro m pc npc a b d w cv sw ls st σ M r σ1 M1 he hex G p l e R s mid args below meth c Q hC ad H locs cells slots lsr hY hcl hsl hE
  obtain ⟨hx, hb, hml, hown, hts, hKU, hini, hfr, hlo, hz⟩ := id hC
  obtain ⟨⟨hP, hD⟩, hZ, hS, hwf, hos, hol, hl, hlen⟩ := id hY
  have hg := fe_good he
  have hk := fe_link he
  have hd := dec_of_good hg
  rw [exec, he] at hex
  dsimp only at hex
  simp only [good, Bool.and_eq_true, decide_eq_true_eq] at hg
  have nx : ∀ (pc1 : Nat) (st1 : List Value), exec f m pc1 ls st1 σ M = some (r, σ1, M1) → okS σ st1 → W p l e R s mid args below meth c H locs cells slots Q (F0 mid pc1 lsr (st1.map (amap ad))) := fun pc1 st1 h1 h2 => ih m pc1 ls st1 σ M r σ1 M1 h1 G p l e R s mid args below meth c Q hC ad H locs cells slots lsr ⟨⟨hP, hD⟩, hZ, hS, hwf, h2, hol, hl, hlen⟩ hcl hsl hE
  cases hs : stA (.iaload) npc a b d cv sw ls st σ M with
  | none => rw [hs] at hex; cases hex
  | some res =>
  rw [hs] at hex
  obtain ⟨-, rfl⟩ := hg
  rw [Nat.add_sub_cancel_left] at hd
  obtain ⟨i, r1, e1, hs1⟩ := pI_some hs
  obtain ⟨o, r2, e2, hs2⟩ := pR_some hs1
  subst e2
  subst e1
  obtain ⟨ht, hs3⟩ := gd_some hs2
  obtain ⟨hin, hs4⟩ := ixI_some hs3
  obtain rfl := go_inl hs4
  have key := nx (pc + 1) _ hex (okS_c okV_i (okS_t (okS_t hos)))
  by_cases h9 : sT σ o = 9
  · exact va_ti hx hb (hZ.1 o h9) hS hin rfl hd key
  · have ho : o < sN σ := okA_obj (okS_h (okS_t hos) o rfl) h9
    have hcw := cw_get (G := G) (ad := ad) (M := M) ho
    have h : sT σ o = 0 := by
      simp only [isI, Bool.or_eq_true, beq_iff_eq] at ht
      omega
    rw [ent_0 h] at hcw
    exact va_iald hx hb hKU.1 hP o 0 hcw rfl hin hd key
set_option maxHeartbeats 4000000 in
theorem fs_caload {f : Nat} (ih : FS f) : FSat f (.caload) := by
  intro m pc npc a b d w cv sw ls st σ M r σ1 M1 he hex G p l e R s mid args below meth c Q hC ad H locs cells slots lsr hY hcl hsl hE
  obtain ⟨hx, hb, hml, hown, hts, hKU, hini, hfr, hlo, hz⟩ := id hC
  obtain ⟨⟨hP, hD⟩, hZ, hS, hwf, hos, hol, hl, hlen⟩ := id hY
  have hg := fe_good he
  have hk := fe_link he
  have hd := dec_of_good hg
  rw [exec, he] at hex
  dsimp only at hex
  simp only [good, Bool.and_eq_true, decide_eq_true_eq] at hg
  have nx : ∀ (pc1 : Nat) (st1 : List Value), exec f m pc1 ls st1 σ M = some (r, σ1, M1) → okS σ st1 → W p l e R s mid args below meth c H locs cells slots Q (F0 mid pc1 lsr (st1.map (amap ad))) := fun pc1 st1 h1 h2 => ih m pc1 ls st1 σ M r σ1 M1 h1 G p l e R s mid args below meth c Q hC ad H locs cells slots lsr ⟨⟨hP, hD⟩, hZ, hS, hwf, h2, hol, hl, hlen⟩ hcl hsl hE
  cases hs : stA (.caload) npc a b d cv sw ls st σ M with
  | none => rw [hs] at hex; cases hex
  | some res =>
  rw [hs] at hex
  obtain ⟨-, rfl⟩ := hg
  rw [Nat.add_sub_cancel_left] at hd
  obtain ⟨i, r1, e1, hs1⟩ := pI_some hs
  obtain ⟨o, r2, e2, hs2⟩ := pR_some hs1
  subst e2
  subst e1
  obtain ⟨ht, hs3⟩ := gd_some hs2
  obtain ⟨hin, hs4⟩ := ixI_some hs3
  obtain rfl := go_inl hs4
  have key := nx (pc + 1) _ hex (okS_c okV_i (okS_t (okS_t hos)))
  have ho : o < sN σ := okA_obj (okS_h (okS_t hos) o rfl) (by omega)
  have hcw := cw_get (G := G) (ad := ad) (M := M) ho
  rw [ent_1 ht] at hcw
  exact va_cald hx hb hKU.1 hP o 1 hcw rfl hin hd key
set_option maxHeartbeats 4000000 in
theorem fs_aaload {f : Nat} (ih : FS f) : FSat f (.aaload) := by
  intro m pc npc a b d w cv sw ls st σ M r σ1 M1 he hex G p l e R s mid args below meth c Q hC ad H locs cells slots lsr hY hcl hsl hE
  obtain ⟨hx, hb, hml, hown, hts, hKU, hini, hfr, hlo, hz⟩ := id hC
  obtain ⟨⟨hP, hD⟩, hZ, hS, hwf, hos, hol, hl, hlen⟩ := id hY
  have hg := fe_good he
  have hk := fe_link he
  have hd := dec_of_good hg
  rw [exec, he] at hex
  dsimp only at hex
  simp only [good, Bool.and_eq_true, decide_eq_true_eq] at hg
  have nx : ∀ (pc1 : Nat) (st1 : List Value), exec f m pc1 ls st1 σ M = some (r, σ1, M1) → okS σ st1 → W p l e R s mid args below meth c H locs cells slots Q (F0 mid pc1 lsr (st1.map (amap ad))) := fun pc1 st1 h1 h2 => ih m pc1 ls st1 σ M r σ1 M1 h1 G p l e R s mid args below meth c Q hC ad H locs cells slots lsr ⟨⟨hP, hD⟩, hZ, hS, hwf, h2, hol, hl, hlen⟩ hcl hsl hE
  cases hs : stA (.aaload) npc a b d cv sw ls st σ M with
  | none => rw [hs] at hex; cases hex
  | some res =>
  rw [hs] at hex
  obtain ⟨-, rfl⟩ := hg
  rw [Nat.add_sub_cancel_left] at hd
  obtain ⟨i, r1, e1, hs1⟩ := pI_some hs
  obtain ⟨o, r2, e2, hs2⟩ := pR_some hs1
  subst e2
  subst e1
  obtain ⟨ht, hs3⟩ := gd_some hs2
  obtain ⟨hin, hs4⟩ := ixI_some hs3
  obtain rfl := go_inl hs4
  have key := nx (pc + 1) _ hex (okS_c (fun j hj => Or.inl (hwf.1 o i.toNatClampNeg j (by
    cases hq : sR σ o i.toNatClampNeg with
    | none => rw [hq] at hj; cases hj
    | some z => rw [hq] at hj; cases hj; rfl))) (okS_t (okS_t hos)))
  rw [List.map_cons, rf_map] at key
  have ho : o < sN σ := okA_obj (okS_h (okS_t hos) o rfl) (by omega)
  have hcw := cw_get (G := G) (ad := ad) (M := M) ho
  rw [ent_2 ht] at hcw
  exact va_aldq (C := "AntTrails$Ground") hx hb hKU.1 hP o 2 hcw rfl hin hd key
set_option maxHeartbeats 4000000 in
theorem fs_iastore {f : Nat} (ih : FS f) : FSat f (.iastore) := by
  intro m pc npc a b d w cv sw ls st σ M r σ1 M1 he hex G p l e R s mid args below meth c Q hC ad H locs cells slots lsr hY hcl hsl hE
  obtain ⟨hx, hb, hml, hown, hts, hKU, hini, hfr, hlo, hz⟩ := id hC
  obtain ⟨⟨hP, hD⟩, hZ, hS, hwf, hos, hol, hl, hlen⟩ := id hY
  have hg := fe_good he
  have hk := fe_link he
  have hd := dec_of_good hg
  rw [exec, he] at hex
  dsimp only at hex
  simp only [good, Bool.and_eq_true, decide_eq_true_eq] at hg
  cases hs : stA (.iastore) npc a b d cv sw ls st σ M with
  | none => rw [hs] at hex; cases hex
  | some res =>
  rw [hs] at hex
  obtain ⟨-, rfl⟩ := hg
  rw [Nat.add_sub_cancel_left] at hd
  obtain ⟨x, r1, e1, hs1⟩ := pI_some hs
  obtain ⟨i, r2, e2, hs2⟩ := pI_some hs1
  obtain ⟨o, r3, e3, hs3⟩ := pR_some hs2
  subst e3
  subst e2
  subst e1
  obtain ⟨ht, hs4⟩ := gd_some hs3
  obtain ⟨hin, hs5⟩ := ixI_some hs4
  obtain rfl := go_inl hs5
  have ho : o < sN σ := okA_obj (okS_h (okS_t (okS_t hos)) o rfl) (by omega)
  have hcw := cw_get (G := G) (ad := ad) (M := M) ho
  rw [ent_0 ht] at hcw
  have hnew : cw G ad σ (upM M o (upI (M o) i.toNatClampNeg x)) = (cw G ad σ M).set o (ad o, .inl (G.2.1, sL σ o, .inl (upd (M o) i.toNatClampNeg x))) := by
    refine cw_M ?_
    rw [ent_0 ht, upM_s]
    rfl
  refine va_iast hx hb hKU.1 hP hD hS o 0 hcw rfl hin hd (fun H1 locs1 q1 q2 q3 => ?_)
  rw [← hnew] at q1 q2
  exact ih m (pc + 1) ls r3 σ (upM M o (upI (M o) i.toNatClampNeg x)) r σ1 M1 hex G p l e R s mid args below meth c Q hC ad H1 locs1 cells slots lsr ⟨⟨q1, q2⟩, hZ.kM (o := o) (by omega) rfl rfl (fun i hi => upM_n hi), q3, hwf, okS_t (okS_t (okS_t hos)), hol, hl, hlen⟩ hcl hsl hE
set_option maxHeartbeats 4000000 in
theorem fs_castore {f : Nat} (ih : FS f) : FSat f (.castore) := by
  intro m pc npc a b d w cv sw ls st σ M r σ1 M1 he hex G p l e R s mid args below meth c Q hC ad H locs cells slots lsr hY hcl hsl hE
  obtain ⟨hx, hb, hml, hown, hts, hKU, hini, hfr, hlo, hz⟩ := id hC
  obtain ⟨⟨hP, hD⟩, hZ, hS, hwf, hos, hol, hl, hlen⟩ := id hY
  have hg := fe_good he
  have hk := fe_link he
  have hd := dec_of_good hg
  rw [exec, he] at hex
  dsimp only at hex
  simp only [good, Bool.and_eq_true, decide_eq_true_eq] at hg
  cases hs : stA (.castore) npc a b d cv sw ls st σ M with
  | none => rw [hs] at hex; cases hex
  | some res =>
  rw [hs] at hex
  obtain ⟨-, rfl⟩ := hg
  rw [Nat.add_sub_cancel_left] at hd
  obtain ⟨x, r1, e1, hs1⟩ := pI_some hs
  obtain ⟨i, r2, e2, hs2⟩ := pI_some hs1
  obtain ⟨o, r3, e3, hs3⟩ := pR_some hs2
  subst e3
  subst e2
  subst e1
  obtain ⟨ht, hs4⟩ := gd_some hs3
  obtain ⟨hin, hs5⟩ := ixI_some hs4
  obtain rfl := go_inl hs5
  have ho : o < sN σ := okA_obj (okS_h (okS_t (okS_t hos)) o rfl) (by omega)
  have hcw := cw_get (G := G) (ad := ad) (M := M) ho
  rw [ent_1 ht] at hcw
  have hnew : cw G ad σ (upM M o (upI (M o) i.toNatClampNeg (vp_nar .char x))) = (cw G ad σ M).set o (ad o, .inl (G.2.2.1, sL σ o, .inl (upd (M o) i.toNatClampNeg (vp_nar .char x)))) := by
    refine cw_M ?_
    rw [ent_1 ht, upM_s]
    rfl
  refine va_cast hx hb hKU.1 hP hD hS o 1 hcw rfl hin hd (fun H1 locs1 q1 q2 q3 => ?_)
  rw [← hnew] at q1 q2
  exact ih m (pc + 1) ls r3 σ (upM M o (upI (M o) i.toNatClampNeg (vp_nar .char x))) r σ1 M1 hex G p l e R s mid args below meth c Q hC ad H1 locs1 cells slots lsr ⟨⟨q1, q2⟩, hZ.kM (o := o) (by omega) rfl rfl (fun i hi => upM_n hi), q3, hwf, okS_t (okS_t (okS_t hos)), hol, hl, hlen⟩ hcl hsl hE
set_option maxHeartbeats 4000000 in
theorem fs_aastore {f : Nat} (ih : FS f) : FSat f (.aastore) := by
  intro m pc npc a b d w cv sw ls st σ M r σ1 M1 he hex G p l e R s mid args below meth c Q hC ad H locs cells slots lsr hY hcl hsl hE
  obtain ⟨hx, hb, hml, hown, hts, hKU, hini, hfr, hlo, hz⟩ := id hC
  obtain ⟨⟨hP, hD⟩, hZ, hS, hwf, hos, hol, hl, hlen⟩ := id hY
  have hg := fe_good he
  have hk := fe_link he
  have hd := dec_of_good hg
  rw [exec, he] at hex
  dsimp only at hex
  simp only [good, Bool.and_eq_true, decide_eq_true_eq] at hg
  cases hs : stA (.aastore) npc a b d cv sw ls st σ M with
  | none => rw [hs] at hex; cases hex
  | some res =>
  rw [hs] at hex
  obtain ⟨-, rfl⟩ := hg
  rw [Nat.add_sub_cancel_left] at hd
  obtain ⟨v, r1, e1, hs1⟩ := pR_some hs
  obtain ⟨i, r2, e2, hs2⟩ := pI_some hs1
  obtain ⟨o, r3, e3, hs3⟩ := pR_some hs2
  subst e3
  subst e2
  subst e1
  obtain ⟨⟨ht, hv11⟩, hs4⟩ := gd_some hs3
  obtain ⟨hin, hs5⟩ := ixI_some hs4
  obtain rfl := go_inl hs5
  have ho : o < sN σ := okA_obj (okS_h (okS_t (okS_t hos)) o rfl) (by omega)
  have hv : v < sN σ := okA_obj (okS_h hos v rfl) (by omega)
  have hcw := cw_get (G := G) (ad := ad) (M := M) ho
  rw [ent_2 ht] at hcw
  have hcv := cw_get (G := G) (ad := ad) (M := M) hv
  rw [ent_obj hv11 (by omega)] at hcv
  have hnew : cw G ad (setR σ o (upM (sR σ o) i.toNatClampNeg (some v))) M = (cw G ad σ M).set o (ad o, .inl (G.2.2.2.1, sL σ o, .inr (.inr (.inr (.inr (va_up (fun j => (sR σ o j).map ad) i.toNatClampNeg (some (ad v)))))))) := by
    refine cw_R ?_
    rw [ent_2 (by rw [sT_set]; exact ht), sL_set, sR_set, upM_s]
    refine congrArg (fun g => (Sum.inl (G.2.2.2.1, sL σ o, Sum.inr (Sum.inr (Sum.inr (Sum.inr g)))) : va_E)) (funext fun j => ?_)
    unfold upM va_up
    dsimp only
    split <;> rfl
  refine va_astq (r := (RX1, TX1, 17)) hx hb hKU.1 hP hD hS o 2 v 1 hcw rfl hcv rfl hin hd (fun H1 locs1 q1 q2 q3 => ?_)
  rw [← hnew] at q1 q2
  exact ih m (pc + 1) ls r3 (setR σ o (upM (sR σ o) i.toNatClampNeg (some v))) M r σ1 M1 hex G p l e R s mid args below meth c Q hC ad H1 locs1 cells slots lsr ⟨⟨q1, q2⟩, hZ.kM (o := o) (by omega) rfl rfl (fun i hi => rfl), q3, wf_M hwf hv, okS_t (okS_t (okS_t hos)), hol, hl, hlen⟩ hcl hsl hE
theorem sN_al {σ : Sg} {t l k : Nat} : sN (alloc σ t l k) = sN σ + 1 := rfl
theorem sT_al {σ : Sg} {t l k : Nat} : sT (alloc σ t l k) = upM (sT σ) (sN σ) t := rfl
theorem sL_al {σ : Sg} {t l k : Nat} : sL (alloc σ t l k) = upM (sL σ) (sN σ) l := rfl
theorem sR_al {σ : Sg} {t l k : Nat} : sR (alloc σ t l k) = upM (sR σ) (sN σ) (fun _ => none) := rfl
theorem sS_al {σ : Sg} {t l k : Nat} : sS (alloc σ t l k) = sS σ + k := rfl
/-- what a new cell changes of the picture -/
theorem al_facts {G : PG} {ad : Nat → Nat} {σ : Sg} {M : Mem} {t l k q : Nat} {E : va_E} {s : State} (hwf : wfS σ) (ht : t ≠ 9) (h9 : ¬ sT σ (sN σ) = 9) (hZ : ZU G ad σ M s s.heap) (hE : ent G (va_up ad (sN σ) q) (alloc σ t l k) (upM M (sN σ) (fun _ => 0)) (sN σ) = E) :
    cw G (va_up ad (sN σ) q) (alloc σ t l k) (upM M (sN σ) (fun _ => 0)) = cw G ad σ M ++ [(q, E)] ∧ ZU G (va_up ad (sN σ) q) (alloc σ t l k) (upM M (sN σ) (fun _ => 0)) s s.heap ∧ wfS (alloc σ t l k) ∧ AG σ ad (va_up ad (sN σ) q) ∧ (∀ i, sT σ i = 9 → sT (alloc σ t l k) i = 9) := by
  have hne : ∀ i, sT σ i = 9 → i ≠ sN σ := fun i hi e => h9 (by rw [← e]; exact hi)
  refine ⟨cw_push rfl (va_up_self _ _ _) hE (fun i hi => ⟨va_up_ne _ _ (by omega), ent_same (upM_n (by omega)) (upM_n (by omega)) (upM_n (by omega)) (fun j => ?_)⟩), hZ.to (fun i => ?_) (fun i hi => ⟨va_up_ne _ _ (hne i hi), upM_n (hne i hi), upM_n (hne i hi)⟩), ⟨fun i j z hz => ?_, fun i hi => ?_⟩, fun j hj => va_up_ne _ _ ?_, fun i hi => ?_⟩
  · rw [sR_al, upM_n (by omega)]
    cases hq : sR σ i j with
    | none => rfl
    | some z =>
      have := hwf.1 i j z hq
      simp only [Option.map_some, Option.some.injEq]
      exact va_up_ne _ _ (by omega)
  · rw [sT_al]
    by_cases e : i = sN σ
    · subst e
      rw [upM_s]
      exact ⟨fun q => absurd q ht, fun q => absurd q h9⟩
    · rw [upM_n e]
  · rw [sR_al] at hz
    by_cases e : i = sN σ
    · subst e
      rw [upM_s] at hz
      cases hz
    · rw [upM_n e] at hz
      have := hwf.1 i j z hz
      rw [sN_al]
      omega
  · rw [sN_al] at hi
    rw [sT_al]
    by_cases e : i = sN σ
    · subst e
      rw [upM_s]
      exact ht
    · rw [upM_n e]
      exact hwf.2 i (by omega)
  · rcases hj with h | h
    · omega
    · exact hne j h
  · rw [sT_al, upM_n (hne i hi)]
    exact hi
set_option maxHeartbeats 4000000 in
theorem fs_new {f : Nat} (ih : FS f) (idx : Nat) : FSat f (.new idx) := by
  intro m pc npc a b d w cv sw ls st σ M r σ1 M1 he hex G p l e R s mid args below meth c Q hC ad H locs cells slots lsr hY hcl hsl hE
  obtain ⟨hx, hb, hml, hown, hts, hKU, hini, hfr, hlo, hz⟩ := id hC
  obtain ⟨⟨hP, hD⟩, hZ, hS, hwf, hos, hol, hl, hlen⟩ := id hY
  have hg := fe_good he
  have hk := fe_link he
  have hd := dec_of_good hg
  rw [exec, he] at hex
  dsimp only at hex
  simp only [good, Bool.and_eq_true, decide_eq_true_eq] at hg
  cases hs : stA (.new idx) npc a b d cv sw ls st σ M with
  | none => rw [hs] at hex; cases hex
  | some res =>
  rw [hs] at hex
  obtain ⟨-, rfl, h10, h8, hbN⟩ := hg
  rw [Nat.add_sub_cancel_left] at hd
  obtain ⟨h9, hs1⟩ := gd_some hs
  obtain rfl := go_inl hs1
  have hex2 : exec f m (pc + 3) ls (.ref (sN σ) :: st) (alloc σ a 0 b) (upM M (sN σ) (fun _ => 0)) = some (r, σ1, M1) := hex
  have hgr := exec_grow hex2
  rw [sN_al, sS_al] at hgr
  simp only [LkP] at hk
  refine va_new (D := G.1) (ci := a - 10) (C := cN (a - 10)) (T := cT (a - 10)) (N := cF (a - 10)) (fs := (List.range (cF (a - 10))).map (fun k => fldV ad none 0 (tcv (cY (a - 10) k)))) hx hb hts (uw_ok _ h8) (cY (a - 10)) (ty_ok _ h8) hown (hts _ (lwG_of hk rfl)) (hts _ (lwG_of (in_ok _ h8) rfl)) (hts _ (lwG_of (it_ok _ h8) rfl)) hKU.1 hP hD hS (fun q hq => Nat.le_trans hz hq) (vw_ok _ h8) (fun j hj => by rw [va_f_get hj]; exact dv_ok _ h8 ad j hj) (by omega) (by rw [← hbN]; omega) hd (fun q H1 q1 q2 q3 => ?_)
  obtain ⟨z1, z2, z3, z4, z5⟩ := al_facts (q := q) (l := 0) (k := b) hwf (show a ≠ 9 by omega) h9 hZ (E := .inr (a - 10, (List.range (cF (a - 10))).map (fun k => fldV ad none 0 (tcv (cY (a - 10) k))))) (by
    rw [ent_obj (t := a) (by rw [sT_al, upM_s]) h10]
    refine congrArg (fun z => (Sum.inr (a - 10, z) : va_E)) (List.map_congr_left fun k _ => ?_)
    rw [sR_al, upM_s, upM_s]
    cases tcv (cY (a - 10) k) <;> rfl)
  rw [← z1] at q1 q2
  have key := ih m (pc + 3) ls (.ref (sN σ) :: st) _ _ r σ1 M1 hex2 G p l e R s mid args below meth c Q hC (va_up ad (sN σ) q) H1 locs (cells + 1) (slots + b) lsr ⟨⟨q1, q2⟩, z2, q3, z3, okS_c (okV_r (Or.inl (by rw [sN_al]; omega))) (okS_to (by rw [sN_al]; omega) z5 hos), okL_to (by rw [sN_al]; omega) z5 hol, asc_ag z4 hol hl, hlen⟩ (by rw [sN_al]; omega) (by rw [sS_al]; omega) (fun pc2 npc a b d w ins cv sw lsr2 H2 locs2 ad2 g1 g2 g3 g4 g5 g6 => hE pc2 npc a b d w ins cv sw lsr2 H2 locs2 ad2 g1 g2 g3 (fun j hj => (g4 j (hj.elim (fun q => Or.inl (by rw [sN_al]; omega)) (fun q => Or.inr (z5 j q)))).trans (z4 j hj)) g5 g6)
  rw [List.map_cons, amap_agS z4 hos] at key
  have e : amap (va_up ad (sN σ) q) (.ref (sN σ)) = .ref q := by simp only [amap, va_up_self]
  rw [e] at key
  rw [← hbN]
  exact key
theorem ra_i {U : State} {c d : ClassId} (h1 : va_RA U c .int) (h2 : va_RA U d .int) : c = d := Option.some.inj (Eq.trans (Eq.symm h1) h2)
theorem ra_c {U : State} {c d : ClassId} (h1 : va_RA U c .char) (h2 : va_RA U d .char) : c = d := Option.some.inj (Eq.trans (Eq.symm h1) h2)
theorem ra_g {U : State} {c d : ClassId} {C : String} (h1 : va_RA U c (.object C)) (h2 : va_RA U d (.object C)) : c = d := by
  obtain ⟨-, -, -, -, -, h1⟩ := h1
  obtain ⟨-, -, -, -, -, h2⟩ := h2
  exact Option.some.inj (h1.symm.trans h2)
theorem ra_last {G : PG} {cA : ClassId} {ty : FieldType} {U : State} (h : va_K G.1 vwCl (tysF G ++ [(cA, ty)]) U) : va_RA U cA ty := (h.2 3 (cA, ty) rfl).2
set_option maxHeartbeats 4000000 in
theorem fs_newI {f : Nat} (ih : FS f) : FSat f (.newarray .int) := by
  intro m pc npc a b d w cv sw ls st σ M r σ1 M1 he hex G p l e R s mid args below meth c Q hC ad H locs cells slots lsr hY hcl hsl hE
  obtain ⟨hx, hb, hml, hown, hts, hKU, hini, hfr, hlo, hz⟩ := id hC
  obtain ⟨⟨hP, hD⟩, hZ, hS, hwf, hos, hol, hl, hlen⟩ := id hY
  have hg := fe_good he
  have hk := fe_link he
  have hd := dec_of_good hg
  rw [exec, he] at hex
  dsimp only at hex
  simp only [good, Bool.and_eq_true, decide_eq_true_eq] at hg
  cases hs : stA (.newarray .int) npc a b d cv sw ls st σ M with
  | none => rw [hs] at hex; cases hex
  | some res =>
  rw [hs] at hex
  obtain ⟨-, rfl, -⟩ := hg
  rw [Nat.add_sub_cancel_left] at hd
  obtain ⟨n, r1, e1, hs1⟩ := pI_some hs
  subst e1
  obtain ⟨h9, hs2⟩ := gd_some hs1
  obtain ⟨hin, hs3⟩ := ixI_some hs2
  obtain rfl := go_inl hs3
  have hex2 : exec f m (pc + 2) ls (.ref (sN σ) :: r1) (alloc σ 0 n.toNatClampNeg n.toNatClampNeg) (upM M (sN σ) (fun _ => 0)) = some (r, σ1, M1) := hex
  
  have hgr := exec_grow hex2
  rw [sN_al, sS_al] at hgr
  have hk0 : ¬ n < 0 := fun q => hin (Or.inl q)
  have hk1 : n.toNatClampNeg < 100000 := Nat.lt_of_not_le fun q => hin (Or.inr q)
  refine va_newa (atype := .int) (ty := .int) (a0 := (n.toNatClampNeg, .inl (fun _ => 0))) hx hb (hts _ (lwG_of wk_ai rfl)) rfl hKU.1 hP hD hS (fun q hq => Nat.le_trans hz hq) (fun cA => rfl) hk0 rfl (by show n.toNatClampNeg * 4 ≤ 536870912; omega) (by omega) (by omega) hd (fun q cA H1 qK q1 q2 q3 => ?_)
  obtain rfl : cA = G.2.1 := ra_i (ra_last qK) (hKU.1.2 0 _ rfl).2
  obtain ⟨z1, z2, z3, z4, z5⟩ := al_facts (q := q) (l := n.toNatClampNeg) (k := n.toNatClampNeg) hwf (show 0 ≠ 9 by decide) h9 hZ (E := .inl (G.2.1, n.toNatClampNeg, .inl (fun _ => 0))) (by
    rw [ent_0 (by rw [sT_al, upM_s]), sL_al, upM_s, upM_s])
  rw [← z1] at q1 q2
  have key := ih m (pc + 2) ls (.ref (sN σ) :: r1) _ _ r σ1 M1 hex2 G p l e R s mid args below meth c Q hC (va_up ad (sN σ) q) H1 locs (cells + 1) (slots + n.toNatClampNeg) lsr ⟨⟨q1, q2⟩, z2, q3, z3, okS_c (okV_r (Or.inl (by rw [sN_al]; omega))) (okS_to (by rw [sN_al]; omega) z5 (okS_t hos)), okL_to (by rw [sN_al]; omega) z5 hol, asc_ag z4 hol hl, hlen⟩ (by rw [sN_al]; omega) (by rw [sS_al]; omega) (fun pc2 npc a b d w ins cv sw lsr2 H2 locs2 ad2 g1 g2 g3 g4 g5 g6 => hE pc2 npc a b d w ins cv sw lsr2 H2 locs2 ad2 g1 g2 g3 (fun j hj => (g4 j (hj.elim (fun q => Or.inl (by rw [sN_al]; omega)) (fun q => Or.inr (z5 j q)))).trans (z4 j hj)) g5 g6)
  rw [List.map_cons, amap_agS z4 (okS_t hos)] at key
  have e : amap (va_up ad (sN σ) q) (.ref (sN σ)) = .ref q := by simp only [amap, va_up_self]
  rw [e] at key
  exact key
set_option maxHeartbeats 4000000 in
theorem fs_newC {f : Nat} (ih : FS f) : FSat f (.newarray .char) := by
  intro m pc npc a b d w cv sw ls st σ M r σ1 M1 he hex G p l e R s mid args below meth c Q hC ad H locs cells slots lsr hY hcl hsl hE
  obtain ⟨hx, hb, hml, hown, hts, hKU, hini, hfr, hlo, hz⟩ := id hC
  obtain ⟨⟨hP, hD⟩, hZ, hS, hwf, hos, hol, hl, hlen⟩ := id hY
  have hg := fe_good he
  have hk := fe_link he
  have hd := dec_of_good hg
  rw [exec, he] at hex
  dsimp only at hex
  simp only [good, Bool.and_eq_true, decide_eq_true_eq] at hg
  cases hs : stA (.newarray .char) npc a b d cv sw ls st σ M with
  | none => rw [hs] at hex; cases hex
  | some res =>
  rw [hs] at hex
  obtain ⟨-, rfl, -⟩ := hg
  rw [Nat.add_sub_cancel_left] at hd
  obtain ⟨n, r1, e1, hs1⟩ := pI_some hs
  subst e1
  obtain ⟨h9, hs2⟩ := gd_some hs1
  obtain ⟨hin, hs3⟩ := ixI_some hs2
  obtain rfl := go_inl hs3
  have hex2 : exec f m (pc + 2) ls (.ref (sN σ) :: r1) (alloc σ 1 n.toNatClampNeg n.toNatClampNeg) (upM M (sN σ) (fun _ => 0)) = some (r, σ1, M1) := hex
  
  have hgr := exec_grow hex2
  rw [sN_al, sS_al] at hgr
  have hk0 : ¬ n < 0 := fun q => hin (Or.inl q)
  have hk1 : n.toNatClampNeg < 100000 := Nat.lt_of_not_le fun q => hin (Or.inr q)
  refine va_newa (atype := .char) (ty := .char) (a0 := (n.toNatClampNeg, .inl (fun _ => 0))) hx hb (hts _ (lwG_of wk_ac rfl)) rfl hKU.1 hP hD hS (fun q hq => Nat.le_trans hz hq) (fun cA => rfl) hk0 rfl (by show n.toNatClampNeg * 2 ≤ 536870912; omega) (by omega) (by omega) hd (fun q cA H1 qK q1 q2 q3 => ?_)
  obtain rfl : cA = G.2.2.1 := ra_c (ra_last qK) (hKU.1.2 1 _ rfl).2
  obtain ⟨z1, z2, z3, z4, z5⟩ := al_facts (q := q) (l := n.toNatClampNeg) (k := n.toNatClampNeg) hwf (show 1 ≠ 9 by decide) h9 hZ (E := .inl (G.2.2.1, n.toNatClampNeg, .inl (fun _ => 0))) (by
    rw [ent_1 (by rw [sT_al, upM_s]), sL_al, upM_s, upM_s])
  rw [← z1] at q1 q2
  have key := ih m (pc + 2) ls (.ref (sN σ) :: r1) _ _ r σ1 M1 hex2 G p l e R s mid args below meth c Q hC (va_up ad (sN σ) q) H1 locs (cells + 1) (slots + n.toNatClampNeg) lsr ⟨⟨q1, q2⟩, z2, q3, z3, okS_c (okV_r (Or.inl (by rw [sN_al]; omega))) (okS_to (by rw [sN_al]; omega) z5 (okS_t hos)), okL_to (by rw [sN_al]; omega) z5 hol, asc_ag z4 hol hl, hlen⟩ (by rw [sN_al]; omega) (by rw [sS_al]; omega) (fun pc2 npc a b d w ins cv sw lsr2 H2 locs2 ad2 g1 g2 g3 g4 g5 g6 => hE pc2 npc a b d w ins cv sw lsr2 H2 locs2 ad2 g1 g2 g3 (fun j hj => (g4 j (hj.elim (fun q => Or.inl (by rw [sN_al]; omega)) (fun q => Or.inr (z5 j q)))).trans (z4 j hj)) g5 g6)
  rw [List.map_cons, amap_agS z4 (okS_t hos)] at key
  have e : amap (va_up ad (sN σ) q) (.ref (sN σ)) = .ref q := by simp only [amap, va_up_self]
  rw [e] at key
  exact key
set_option maxHeartbeats 4000000 in
theorem fs_anewarray {f : Nat} (ih : FS f) (idx : Nat) : FSat f (.anewarray idx) := by
  intro m pc npc a b d w cv sw ls st σ M r σ1 M1 he hex G p l e R s mid args below meth c Q hC ad H locs cells slots lsr hY hcl hsl hE
  obtain ⟨hx, hb, hml, hown, hts, hKU, hini, hfr, hlo, hz⟩ := id hC
  obtain ⟨⟨hP, hD⟩, hZ, hS, hwf, hos, hol, hl, hlen⟩ := id hY
  have hg := fe_good he
  have hk := fe_link he
  have hd := dec_of_good hg
  rw [exec, he] at hex
  dsimp only at hex
  simp only [good, Bool.and_eq_true, decide_eq_true_eq] at hg
  cases hs : stA (.anewarray idx) npc a b d cv sw ls st σ M with
  | none => rw [hs] at hex; cases hex
  | some res =>
  rw [hs] at hex
  obtain ⟨-, rfl⟩ := hg
  rw [Nat.add_sub_cancel_left] at hd
  obtain ⟨n, r1, e1, hs1⟩ := pI_some hs
  subst e1
  obtain ⟨h9, hs2⟩ := gd_some hs1
  obtain ⟨hin, hs3⟩ := ixI_some hs2
  obtain rfl := go_inl hs3
  have hex2 : exec f m (pc + 3) ls (.ref (sN σ) :: r1) (alloc σ 2 n.toNatClampNeg n.toNatClampNeg) (upM M (sN σ) (fun _ => 0)) = some (r, σ1, M1) := hex
  simp only [LkP] at hk
  
  have hgr := exec_grow hex2
  rw [sN_al, sS_al] at hgr
  have hk0 : ¬ n < 0 := fun q => hin (Or.inl q)
  have hk1 : n.toNatClampNeg < 100000 := Nat.lt_of_not_le fun q => hin (Or.inr q)
  refine va_newq (C := "AntTrails$Ground") hx hb hown (hts _ (lwG_of hk rfl)) hKU.2.2.2 hKU.1 hP hD hS (fun q hq => Nat.le_trans hz hq) hk0 rfl (by omega) (by omega) (by omega) hd (fun q cA H1 qK q1 q2 q3 => ?_)
  obtain rfl : cA = G.2.2.2.1 := ra_g (ra_last qK) (hKU.1.2 2 _ rfl).2
  obtain ⟨z1, z2, z3, z4, z5⟩ := al_facts (q := q) (l := n.toNatClampNeg) (k := n.toNatClampNeg) hwf (show 2 ≠ 9 by decide) h9 hZ (E := .inl (G.2.2.2.1, n.toNatClampNeg, .inr (.inr (.inr (.inr (fun _ => none)))))) (by
    rw [ent_2 (by rw [sT_al, upM_s]), sL_al, upM_s, sR_al, upM_s]
    rfl)
  rw [← z1] at q1 q2
  have key := ih m (pc + 3) ls (.ref (sN σ) :: r1) _ _ r σ1 M1 hex2 G p l e R s mid args below meth c Q hC (va_up ad (sN σ) q) H1 locs (cells + 1) (slots + n.toNatClampNeg) lsr ⟨⟨q1, q2⟩, z2, q3, z3, okS_c (okV_r (Or.inl (by rw [sN_al]; omega))) (okS_to (by rw [sN_al]; omega) z5 (okS_t hos)), okL_to (by rw [sN_al]; omega) z5 hol, asc_ag z4 hol hl, hlen⟩ (by rw [sN_al]; omega) (by rw [sS_al]; omega) (fun pc2 npc a b d w ins cv sw lsr2 H2 locs2 ad2 g1 g2 g3 g4 g5 g6 => hE pc2 npc a b d w ins cv sw lsr2 H2 locs2 ad2 g1 g2 g3 (fun j hj => (g4 j (hj.elim (fun q => Or.inl (by rw [sN_al]; omega)) (fun q => Or.inr (z5 j q)))).trans (z4 j hj)) g5 g6)
  rw [List.map_cons, amap_agS z4 (okS_t hos)] at key
  have e : amap (va_up ad (sN σ) q) (.ref (sN σ)) = .ref q := by simp only [amap, va_up_self]
  rw [e] at key
  exact key
end
section
def Cl (P : Rs → Prop) (x : Option Rs) : Prop := ∀ y, x = some y → P y
theorem cl_go {P : Rs → Prop} {pc : Nat} {ls : Lcl} {st : List Value} {σ : Sg} {M : Mem} (h : P (.inl (pc, ls, st, σ, M))) : Cl P (go pc ls st σ M) := fun y e => by
  rw [go_inl e]
  exact h
theorem cl_s {P : Rs → Prop} {x : Rs} (h : P x) : Cl P (some x) := fun y e => by
  cases e
  exact h
theorem cl_n {P : Rs → Prop} : Cl P none := fun _ e => by cases e
theorem cl_pI {P : Rs → Prop} {st : List Value} {K : Int32 → List Value → Option Rs} (h : ∀ y r, Cl P (K y r)) : Cl P (pI st K) := by
  unfold pI; split
  · exact h _ _
  · exact cl_n
theorem cl_pR {P : Rs → Prop} {st : List Value} {K : Nat → List Value → Option Rs} (h : ∀ y r, Cl P (K y r)) : Cl P (pR st K) := by
  unfold pR; split
  · exact h _ _
  · exact cl_n
theorem cl_pG {P : Rs → Prop} {st : List Value} {K : Int64 → List Value → Option Rs} (h : ∀ y r, Cl P (K y r)) : Cl P (pG st K) := by
  unfold pG; split
  · exact h _ _
  · exact cl_n
theorem cl_pF {P : Rs → Prop} {st : List Value} {K : UInt32 → List Value → Option Rs} (h : ∀ y r, Cl P (K y r)) : Cl P (pF st K) := by
  unfold pF; split
  · exact h _ _
  · exact cl_n
theorem cl_pV {P : Rs → Prop} {st : List Value} {K : Value → List Value → Option Rs} (h : ∀ y r, Cl P (K y r)) : Cl P (pV st K) := by
  unfold pV; split
  · exact h _ _
  · exact h _ _
  · exact h _ _
  · exact h _ _
  · exact cl_n
theorem cl_ldI {P : Rs → Prop} {v : Option Value} {K : Int32 → Option Rs} (h : ∀ y, Cl P (K y)) : Cl P (ldI v K) := by
  unfold ldI; split
  · exact h _
  · exact cl_n
theorem cl_ldG {P : Rs → Prop} {v : Option Value} {K : Int64 → Option Rs} (h : ∀ y, Cl P (K y)) : Cl P (ldG v K) := by
  unfold ldG; split
  · exact h _
  · exact cl_n
theorem cl_ldF {P : Rs → Prop} {v : Option Value} {K : UInt32 → Option Rs} (h : ∀ y, Cl P (K y)) : Cl P (ldF v K) := by
  unfold ldF; split
  · exact h _
  · exact cl_n
theorem cl_ldA {P : Rs → Prop} {v : Option Value} {K : Value → Option Rs} (h : ∀ y, Cl P (K y)) : Cl P (ldA v K) := by
  unfold ldA; split
  · exact h _
  · exact h _
  · exact cl_n
theorem cl_gd {P : Rs → Prop} {c : Prop} [Decidable c] {K : Option Rs} (h : c → Cl P K) : Cl P (gd c K) := by
  unfold gd; split
  · rename_i hc
    exact h hc
  · exact cl_n
theorem cl_ixI {P : Rs → Prop} {i : Int32} {n : Nat} {K : Nat → Option Rs} (h : ∀ k, Cl P (K k)) : Cl P (ixI i n K) := by
  unfold ixI; split
  · exact cl_n
  · exact h _
theorem cl_st1 {P : Rs → Prop} {ls : Lcl} {k : Nat} {v : Value} {K : Lcl → Option Rs} (h : ∀ l, Cl P (K l)) : Cl P (st1 ls k v K) := cl_gd fun _ => h _
theorem cl_st2 {P : Rs → Prop} {ls : Lcl} {k : Nat} {v : Value} {K : Lcl → Option Rs} (h : ∀ l, Cl P (K l)) : Cl P (st2 ls k v K) := cl_gd fun _ => h _
theorem cl_call {P : Rs → Prop} {σ : Sg} {a b d : Nat} {r : Option (List Value × List Value)} (h : ∀ z, P (.inr (.inl z))) : Cl P (doCall σ a b d r) := by
  unfold doCall
  split
  · split
    · split
      · exact cl_s (h _)
      · split
        · split
          · exact cl_s (h _)
          · exact cl_n
        · exact cl_n
    · exact cl_n
  · exact cl_n
theorem cl_spec {P : Rs → Prop} {a npc : Nat} {st : List Value} {ls : Lcl} {σ : Sg} {M : Mem} (h : ∀ st2, P (.inl (npc, ls, st2, σ, M))) : Cl P (spec a npc ls st σ M) := by
  unfold spec
  split
  · exact cl_pR fun _ _ => cl_gd fun _ => cl_go (h _)
  · split
    · exact cl_pI fun _ _ => cl_pI fun _ _ => cl_gd fun _ => cl_go (h _)
    · split
      · exact cl_pI fun _ _ => cl_pI fun _ _ => cl_gd fun _ => cl_go (h _)
      · exact cl_pF fun _ _ => cl_gd fun _ => cl_go (h _)
def isRt (y : Rs) : Prop := match y with
  | .inr (.inr _) => False
  | _ => True
theorem stA_ret {ins : Instr} {npc a b d : Nat} {cv : Value} {sw : List (Int32 × Nat)} {ls : Lcl} {st : List Value} {σ : Sg} {M : Mem} {v : Option Value} (h : stA ins npc a b d cv sw ls st σ M = some (.inr (.inr v))) : (ins = .ireturn ∧ ∃ x, st = [.int x] ∧ v = some (.int x) ∧ okR cv x = true) ∨ (ins = .return_ ∧ st = [] ∧ v = none) := by
  have key : ins = .ireturn ∨ ins = .return_ ∨ Cl isRt (stA ins npc a b d cv sw ls st σ M) := by
    cases ins
    case ireturn => exact Or.inl rfl
    case return_ => exact Or.inr (Or.inl rfl)
    all_goals refine Or.inr (Or.inr ?_)
    all_goals simp only [stA]
    all_goals first
      | exact cl_go trivial
      | exact cl_n
      | exact cl_call fun _ => trivial
      | (refine cl_ldI fun _ => ?_; first | exact cl_go trivial | exact cl_st1 fun _ => cl_go trivial)
      | exact cl_ldA fun _ => cl_go trivial
      | exact cl_ldG fun _ => cl_go trivial
      | exact cl_ldF fun _ => cl_go trivial
      | (refine cl_pI fun _ _ => ?_; first | exact cl_go trivial | exact cl_st1 fun _ => cl_go trivial | exact cl_pI fun _ _ => cl_go trivial | exact cl_pI fun _ _ => cl_gd fun _ => cl_go trivial | exact cl_pR fun _ _ => cl_gd fun _ => cl_ixI fun _ => cl_go trivial | exact cl_pI fun _ _ => cl_pR fun _ _ => cl_gd fun _ => cl_ixI fun _ => cl_go trivial | exact cl_gd fun _ => cl_ixI fun _ => cl_go trivial)
      | (refine cl_pR fun _ _ => ?_; first | exact cl_go trivial | exact cl_st1 fun _ => cl_go trivial | exact cl_gd fun _ => cl_go trivial | exact cl_pI fun _ _ => cl_pR fun _ _ => cl_gd fun _ => cl_ixI fun _ => cl_go trivial)
      | (refine cl_pF fun _ _ => ?_; first | exact cl_go trivial | exact cl_st1 fun _ => cl_go trivial | exact cl_pF fun _ _ => cl_go trivial | exact cl_pF fun _ _ => cl_gd fun _ => cl_go trivial)
      | (refine cl_pG fun _ _ => ?_; first | exact cl_go trivial | exact cl_st2 fun _ => cl_go trivial | exact cl_pG fun _ _ => cl_go trivial | exact cl_pG fun _ _ => cl_gd fun _ => cl_go trivial)
      | (refine cl_pV fun _ _ => ?_; first | exact cl_go trivial | exact cl_pV fun _ _ => cl_go trivial)
      | exact cl_gd fun _ => cl_go trivial
      | (unfold putF; split; · exact cl_pR fun _ _ => cl_pR fun _ _ => cl_gd fun _ => cl_go trivial
         · exact cl_pI fun _ _ => cl_pR fun _ _ => cl_gd fun _ => cl_go trivial)
      | (split
         · exact cl_call fun _ => trivial
         · exact cl_spec fun _ => trivial)
  rcases key with rfl | rfl | hk
  · refine Or.inl ⟨rfl, ?_⟩
    simp only [stA] at h
    split at h
    · rename_i x
      obtain ⟨h1, h2⟩ := gd_some h
      cases h2
      exact ⟨x, rfl, rfl, h1⟩
    · cases h
  · refine Or.inr ⟨rfl, ?_⟩
    simp only [stA] at h
    split at h
    · cases h
      exact ⟨rfl, rfl⟩
    · cases h
  · exact (hk _ h).elim
/-- fixed rows stay -/
def RO (σ : Sg) (M : Mem) (σ1 : Sg) (M1 : Mem) : Prop := (∀ i, sT σ1 i = 9 ↔ sT σ i = 9) ∧ (∀ i, sT σ i = 9 → sL σ1 i = sL σ i ∧ M1 i = M i)
theorem RO.rf {σ : Sg} {M : Mem} : RO σ M σ M := ⟨fun _ => Iff.rfl, fun _ _ => ⟨rfl, rfl⟩⟩
theorem RO.tr {σ σ1 σ2 : Sg} {M M1 M2 : Mem} (h : RO σ M σ1 M1) (h2 : RO σ1 M1 σ2 M2) : RO σ M σ2 M2 :=
  ⟨fun i => (h2.1 i).trans (h.1 i), fun i hi => ⟨((h2.2 i ((h.1 i).mpr hi)).1).trans (h.2 i hi).1, ((h2.2 i ((h.1 i).mpr hi)).2).trans (h.2 i hi).2⟩⟩
theorem RO.m {σ : Sg} {M : Mem} {o : Nat} {f : Nat → Int32} (h : sT σ o ≠ 9) : RO σ M σ (upM M o f) := ⟨fun _ => Iff.rfl, fun i hi => ⟨rfl, upM_n fun e => h (by rw [← e]; exact hi)⟩⟩
theorem RO.a {σ : Sg} {M : Mem} {t l k : Nat} {f : Nat → Int32} (h : ¬ sT σ (sN σ) = 9) (ht : t ≠ 9) : RO σ M (alloc σ t l k) (upM M (sN σ) f) := by
  have hne : ∀ i, sT σ i = 9 → i ≠ sN σ := fun i hi e => h (by rw [← e]; exact hi)
  refine ⟨fun i => ?_, fun i hi => ⟨upM_n (hne i hi), upM_n (hne i hi)⟩⟩
  rw [sT_al]
  by_cases e : i = sN σ
  · subst e
    rw [upM_s]
    exact ⟨fun q => absurd q ht, fun q => absurd q h⟩
  · rw [upM_n e]
def isRO (σ : Sg) (M : Mem) (y : Rs) : Prop := match y with
  | .inl (_, _, _, σ1, M1) => RO σ M σ1 M1
  | _ => True
theorem stA_ro {ins : Instr} {npc a b d : Nat} {cv : Value} {sw : List (Int32 × Nat)} {ls : Lcl} {st : List Value} {σ : Sg} {M : Mem} (ha : (∃ k, ins = .putfield k) ∨ (∃ k, ins = .new k) → a ≠ 9) : Cl (isRO σ M) (stA ins npc a b d cv sw ls st σ M) := by
  have t0 : ∀ {pc : Nat} {l2 : Lcl} {s2 : List Value}, isRO σ M (.inl (pc, l2, s2, σ, M)) := RO.rf
  cases ins
  case putfield k =>
    have h9 := ha (Or.inl ⟨k, rfl⟩)
    simp only [stA]
    unfold putF
    split
    · exact cl_pR fun _ _ => cl_pR fun _ _ => cl_gd fun _ => cl_go ⟨fun _ => Iff.rfl, fun _ _ => ⟨rfl, rfl⟩⟩
    · exact cl_pI fun _ _ => cl_pR fun _ _ => cl_gd fun h => cl_go (RO.m (by rw [h.1]; exact h9))
  case new k =>
    have h9 := ha (Or.inr ⟨k, rfl⟩)
    simp only [stA]
    exact cl_gd fun h => cl_go (RO.a h h9)
  case newarray k =>
    simp only [stA]
    exact cl_pI fun _ _ => cl_gd fun h => cl_ixI fun _ => cl_go (RO.a h (by split <;> decide))
  case anewarray k =>
    simp only [stA]
    exact cl_pI fun _ _ => cl_gd fun h => cl_ixI fun _ => cl_go (RO.a h (by decide))
  case iastore =>
    simp only [stA]
    exact cl_pI fun _ _ => cl_pI fun _ _ => cl_pR fun _ _ => cl_gd fun h => cl_ixI fun _ => cl_go (RO.m (by omega))
  case castore =>
    simp only [stA]
    exact cl_pI fun _ _ => cl_pI fun _ _ => cl_pR fun _ _ => cl_gd fun h => cl_ixI fun _ => cl_go (RO.m (by omega))
  case aastore =>
    simp only [stA]
    exact cl_pR fun _ _ => cl_pI fun _ _ => cl_pR fun _ _ => cl_gd fun h => cl_ixI fun _ => cl_go ⟨fun _ => Iff.rfl, fun _ _ => ⟨rfl, rfl⟩⟩
  case ireturn =>
    simp only [stA]
    split
    · exact cl_gd fun _ => cl_s trivial
    · exact cl_n
  case return_ =>
    simp only [stA]
    split
    · exact cl_s trivial
    · exact cl_n
  all_goals simp only [stA]
  all_goals first
    | exact cl_go t0
    | exact cl_n
    | exact cl_call fun _ => trivial
    | (refine cl_ldI fun _ => ?_; first | exact cl_go t0 | exact cl_st1 fun _ => cl_go t0)
    | exact cl_ldA fun _ => cl_go t0
    | exact cl_ldG fun _ => cl_go t0
    | exact cl_ldF fun _ => cl_go t0
    | (refine cl_pI fun _ _ => ?_; first | exact cl_go t0 | exact cl_st1 fun _ => cl_go t0 | exact cl_pI fun _ _ => cl_go t0 | exact cl_pI fun _ _ => cl_gd fun _ => cl_go t0 | exact cl_pR fun _ _ => cl_gd fun _ => cl_ixI fun _ => cl_go t0)
    | (refine cl_pR fun _ _ => ?_; first | exact cl_go t0 | exact cl_st1 fun _ => cl_go t0 | exact cl_gd fun _ => cl_go t0)
    | (refine cl_pF fun _ _ => ?_; first | exact cl_go t0 | exact cl_st1 fun _ => cl_go t0 | exact cl_pF fun _ _ => cl_go t0 | exact cl_pF fun _ _ => cl_gd fun _ => cl_go t0)
    | (refine cl_pG fun _ _ => ?_; first | exact cl_go t0 | exact cl_st2 fun _ => cl_go t0 | exact cl_pG fun _ _ => cl_go t0 | exact cl_pG fun _ _ => cl_gd fun _ => cl_go t0)
    | (refine cl_pV fun _ _ => ?_; first | exact cl_go t0 | exact cl_pV fun _ _ => cl_go t0)
    | exact cl_gd fun _ => cl_go t0
    | (split
       · exact cl_call fun _ => trivial
       · exact cl_spec fun _ => t0)
theorem good_a9 {m pc npc a b d w : Nat} {ins : Instr} {cv : Value} {sw : List (Int32 × Nat)} (h : good m (pc, ins, npc, a, b, d, w, cv, sw) = true) : (∃ k, ins = .putfield k) ∨ (∃ k, ins = .new k) → a ≠ 9 := by
  rintro (⟨k, rfl⟩ | ⟨k, rfl⟩) <;> (simp only [good, Bool.and_eq_true, decide_eq_true_eq] at h; omega)
theorem exec_ro : ∀ {f m pc : Nat} {ls : Lcl} {st : List Value} {σ : Sg} {M : Mem} {r : Option Value} {σ1 : Sg} {M1 : Mem}, exec f m pc ls st σ M = some (r, σ1, M1) → RO σ M σ1 M1
  | 0, _, _, _, _, _, _, _, _, _, h => by simp [exec] at h
  | f + 1, m, pc, ls, st, σ, M, r, σ1, M1, h => by
    rw [exec] at h
    split at h
    · cases h
    · rename_i he
      split at h
      · cases h
      · rename_i hs
        exact RO.tr (stA_ro (good_a9 (fe_good he)) _ hs) (exec_ro h)
      · split at h
        · cases h
        · rename_i hc
          exact RO.tr (exec_ro hc) (exec_ro h)
      · cases h
        exact RO.rf
theorem exec_ret : ∀ {f m pc : Nat} {ls : Lcl} {st : List Value} {σ : Sg} {M : Mem} {r : Option Value} {σ1 : Sg} {M1 : Mem}, exec f m pc ls st σ M = some (r, σ1, M1) → (r = none ∧ mR m = none) ∨ (∃ v, r = some (.int v) ∧ mR m ≠ none)
  | 0, _, _, _, _, _, _, _, _, _, h => by simp [exec] at h
  | f + 1, m, pc, ls, st, σ, M, r, σ1, M1, h => by
    rw [exec] at h
    split at h
    · cases h
    · rename_i he
      split at h
      · cases h
      · exact exec_ret h
      · split at h
        · cases h
        · exact exec_ret h
      · rename_i hs
        cases h
        have hg := fe_good he
        rcases stA_ret hs with ⟨rfl, x, -, rfl, -⟩ | ⟨rfl, -, rfl⟩
        · simp only [good, Bool.and_eq_true, decide_eq_true_eq] at hg
          refine Or.inr ⟨x, rfl, ?_⟩
          rcases hg.2.2 with q | q | q <;> (rw [q.2]; decide)
        · simp only [good, Bool.and_eq_true, decide_eq_true_eq] at hg
          exact Or.inl ⟨rfl, hg.2.2⟩
theorem doCall_some {σ : Sg} {a b d : Nat} {r : Option (List Value × List Value)} {x : Rs} (h : doCall σ a b d r = some x) : ∃ args rest, r = some (args, rest) ∧ le4 rest = true ∧ noL args = true ∧ x = .inr (.inl (a, iniL args b, rest)) ∧ (d ≠ 0 → ∃ o tl, args = .ref o :: tl ∧ sT σ o = d) := by
  unfold doCall at h
  split at h
  · rename_i args rest
    split at h
    · rename_i hc
      simp only [Bool.and_eq_true] at hc
      split at h
      · rename_i h0
        cases h
        exact ⟨args, rest, rfl, hc.1, hc.2, rfl, fun q => absurd h0 q⟩
      · split at h
        · rename_i o tl
          split at h
          · rename_i ht
            cases h
            exact ⟨_, rest, rfl, hc.1, hc.2, rfl, fun _ => ⟨o, tl, rfl, ht⟩⟩
          · cases h
        · cases h
    · cases h
  · cases h
def rmM (j mc ms : Nat) : Room := { frames := mK j, cells := mc, slots := ms, locals := 36 * mK j }
def PB (G : PG) (ad : Nat → Nat) (σ : Sg) (M : Mem) (U : State) : Prop := HP G ad σ M U.heap ∧ KU G U ∧ ZU G ad σ M U U.heap ∧ G.2.2.2.2 ≤ U.heap.size
theorem noL_cat {v : Value} {r : List Value} (h : noL (v :: r) = true) : v.category ≠ 2 ∧ noL r = true := by
  cases v <;> simp_all [noL, Value.category]
theorem lg_cons {v : Value} {r : List Value} (h : v.category ≠ 2) : lg_sl (v :: r) = .val v :: lg_sl r := by
  unfold lg_sl
  rw [List.flatMap_cons, if_neg h]
  rfl
theorem noL_len {ad : Nat → Nat} : ∀ {vs : List Value}, noL vs = true → (lg_sl (vs.map (amap ad))).length = vs.length
  | [], _ => rfl
  | u :: r, h => by
    obtain ⟨h1, h2⟩ := noL_cat h
    rw [List.map_cons, lg_cons (by rw [cat_amap]; exact h1), List.length_cons, noL_len h2, List.length_cons]
theorem lget_rep : ∀ {b k : Nat} {v : Value}, lget (List.replicate b none) k = some v → False
  | 0, _, _, h => by simp [lget] at h
  | b + 1, 0, _, h => by simp [List.replicate, lget] at h
  | b + 1, k + 1, v, h => lget_rep (b := b) (k := k) (v := v) (by simpa [List.replicate, lget] using h)
theorem mem_args {ad : Nat → Nat} {b : Nat} : ∀ {vs : List Value} {i k : Nat} {v : Value}, noL vs = true → lget (iniL vs b) k = some v → (i + k, amap ad v) ∈ lv_args i (vs.map (amap ad))
  | [], i, k, v, _, h => (lget_rep (b := b) (k := k) (v := v) (by simpa [iniL] using h)).elim
  | u :: r, i, 0, v, hn, h => by
    have e : u = v := by simpa [iniL, lget] using h
    subst e
    exact List.mem_cons_self
  | u :: r, i, k + 1, v, hn, h => by
    obtain ⟨h1, h2⟩ := noL_cat hn
    have ih := mem_args (ad := ad) (vs := r) (i := i + 1) (k := k) (v := v) h2 (by simpa [iniL, lget] using h)
    rw [List.map_cons, lv_args, if_neg (by rw [cat_amap]; exact h1), show i + (k + 1) = i + 1 + k by omega]
    exact List.mem_cons_of_mem _ ih
theorem okL_ini {σ : Sg} {b : Nat} : ∀ {vs : List Value}, okS σ vs → okL σ (iniL vs b)
  | [], _ => fun k v h => (lget_rep (b := b) (k := k) (v := v) (by simpa [iniL] using h)).elim
  | u :: r, h => fun k v hk => by
    cases k with
    | zero =>
      have e : u = v := by simpa [iniL, lget] using hk
      exact e ▸ okS_h h
    | succ k => exact okL_ini (okS_t h) k v (by simpa [iniL, lget] using hk)
theorem narrow_ret {j : Nat} {cv : Value} {x : Int32} {ty : FieldType} (hg : (cv = .int (nI 0) ∧ mR j = some .int) ∨ (cv = .int (nI 1) ∧ mR j = some .boolean) ∨ (cv = .int (nI 2) ∧ mR j = some .char)) (hx : okR cv x = true) (ht : mR j = some ty) : narrow ty (.int x) = .int x := by
  rcases hg with ⟨rfl, q⟩ | ⟨rfl, q⟩ | ⟨rfl, q⟩
  · cases q.symm.trans ht
    rfl
  · cases q.symm.trans ht
    have h2 : x = 0 ∨ x = 1 := by
      have h3 : okB x = true := by simpa [okR, show ¬ nI 1 = 0 from by decide, show nI 1 = 1 from by decide] using hx
      simpa [okB] using h3
    rcases h2 with rfl | rfl <;> rfl
  · cases q.symm.trans ht
    have h3 : okC x = true := by simpa [okR, show ¬ nI 2 = 0 from by decide, show ¬ nI 2 = 1 from by decide] using hx
    have h4 : (x.toUInt32 % 65536).toInt32 = x := by simpa [okC] using h3
    have := pk_nc x
    rw [h4] at this
    exact this
set_option maxHeartbeats 2000000 in
/-- a run of a method, as the method's contract: its entry -/
theorem met_in {f j b : Nat} (hF : FS f) {vs : List Value} {σ σ1 : Sg} {M M1 : Mem} {r : Option Value} (hex : exec f j 0 (iniL vs b) [] σ M = some (r, σ1, M1)) (hgm : GM j) (hb : vs.length + b = mL j) (hnl : noL vs = true) (hwf : wfS σ) (hos : okS σ vs) (G : PG) (ad : Nat → Nat) (l : Launch) (Qc : Array Value → State → Outcome → State → Prop)
    (hq : ∀ (s t : State) (a : Array Value) (ad2 : Nat → Nat), AG σ ad ad2 → wfS σ1 → HP G ad2 σ1 M1 t.heap → va_F (AA G) s t → Qc a s (.returned r) t) :
    Met l (mY j) (wsM j) (rmM j (sN σ1 - sN σ) (sS σ1 - sS σ)) (va_Pc (vs.map (amap ad)) (PB G ad σ M)) Qc (sN σ1 - sN σ) (sS σ1 - sS σ) (AA G) := by
  have hgr := exec_grow hex
  refine MetFree.of_bodySF (code := mB j) (maxLocals := mL j) (ret := mR j) hgm.2.2.2.1 ?_ ?_
  · intro args s m h hn
    obtain ⟨meth, c, h1, h2, h3, h4, h5, h6, -, -⟩ := Cond.code_spec hn (atoms_spec (ws := wsM j) h _ List.mem_cons_self)
    exact ⟨meth, c, h1, h2, h3, h4, h5, h6⟩
  · intro p e s m args below meth c s₁ B hml hv _
    obtain ⟨rfl, hHP, hKU, hZU, hz⟩ := hv
    have hts := atoms_spec (ws := wsM j) B.pre
    have hown : s.vm.findClass (mO j) = some m.cls := findClass_of_methodNamed B.named
    have hh0 : s₁.heap = s.heap := by rw [B.state]; rfl
    have hlen : (lg_sl (vs.map (amap ad))).length ≤ mL j := by rw [noL_len hnl]; omega
    have hl := lv_entry (vs.map (amap ad)) (n := mL j) hlen
    have K : W p l e (rmM j (sN σ1 - sN σ) (sS σ1 - sS σ)) s m (vs.map (amap ad)).toArray below meth c s.heap [] 0 0 (MQ below Qc (vs.map (amap ad)).toArray s (sN σ1 - sN σ) (sS σ1 - sS σ) (AA G)) (entryFrame m (vs.map (amap ad)).toArray (mL j)) := by
      rw [lg_entry_eq]
      generalize (lg_sl (vs.map (amap ad)) ++ List.replicate (mL j - (lg_sl (vs.map (amap ad))).length) Slot.unset).toArray = lsr at hl ⊢
      refine hF j 0 (iniL vs b) [] σ M r σ1 M1 hex G p l e (rmM j (sN σ1 - sN σ) (sS σ1 - sS σ)) s m _ below meth c _ ⟨B.exec, B.bytes, hml, hown, fun w hw => hts w (List.mem_cons_of_mem _ hw), hKU, fun h => ((name_of_methodNamed B.named B.method).1).trans h, Nat.le_refl _, Nat.le_refl _, hz⟩ ad s.heap [] 0 0 lsr ⟨hHP, hZU, va_S.rf, hwf, okS_n, okL_ini hos, ?_, ?_⟩ ?_ ?_ ?_
      · refine lv_mono hl fun q hq => ?_
        obtain ⟨v, h1, h2⟩ := mem_asc.mp hq
        have h3 := mem_args (ad := ad) (i := 0) hnl h1
        rw [Nat.zero_add, ← h2] at h3
        exact h3
      · simp only [iniL, List.length_append, List.length_map, List.length_replicate]
        exact hb
      · show 0 + sN σ1 ≤ sN σ1 - sN σ + sN σ
        omega
      · show 0 + sS σ1 ≤ sS σ1 - sS σ + sS σ
        omega
      · intro pc2 npc a b d w ins cv sw lsr2 H2 locs2 ad2 he hr hHP2 hag hS2 hwf2
        have hg := fe_good he
        have hd := dec_of_good hg
        rcases hr with ⟨v, rfl, rfl, hok⟩ | ⟨rfl, rfl⟩
        · simp only [good, Bool.and_eq_true, decide_eq_true_eq] at hg
          obtain ⟨-, rfl, hcv⟩ := hg
          rw [Nat.add_sub_cancel_left] at hd
          obtain ⟨ty, hty⟩ : ∃ ty, mR j = some ty := by rcases hcv with q | q | q <;> exact ⟨_, q.2⟩
          exact W.zret (ty := ty) B.exec B.bytes (B.returns.trans hty) (narrow_ret hcv hok hty) (fun t ht _ => hq s t _ ad2 hag hwf2 (by rw [ht]; exact hHP2) (hS2.F ht)) hS2.2.2 hd (hlocks := B.notSynchronized)
        · simp only [good, Bool.and_eq_true, decide_eq_true_eq] at hg
          obtain ⟨-, rfl, hcv⟩ := hg
          rw [Nat.add_sub_cancel_left] at hd
          exact W.vret B.exec B.bytes (B.returns.trans hcv) (fun t ht _ => hq s t _ ad2 hag hwf2 (by rw [ht]; exact hHP2) (hS2.F ht)) hS2.2.2 hd (hlocks := B.notSynchronized)
    obtain ⟨t, a1, o, b1, b2, b3⟩ := K s₁ hh0 (Stand.of_body B)
    exact ⟨t, o, a1, b1, b2, ⟨b3.1, b3.2⟩⟩
theorem PB.blind {G : PG} {ad : Nat → Nat} {σ : Sg} {M : Mem} {avs : List Value} : FrameBlind (va_Pc avs (PB G ad σ M)) := fun a U g mk h => by
  obtain ⟨h0, h1, h2, h3, h4⟩ := h
  exact ⟨h0, h1, KU.same (u := U) rfl h2, ZU.moved (u := U) (Vm.Alike.refl U.vm) h3, h4⟩
/-- behind a call: the frame goes on -/
theorem fs_back {f : Nat} (ih : FS f) {m npc : Nat} {ls : Lcl} {st rest : List Value} {σ σ2 σ1 : Sg} {M M2 M1 : Mem} {r1 r : Option Value} {j : Nat} {ls1 : Lcl} (hc : exec f j 0 ls1 [] σ M = some (r1, σ2, M2)) (hex : exec f m npc ls (pushR r1 rest) σ2 M2 = some (r, σ1, M1))
    {G : PG} {p : Program} {l : Launch} {e : Env} {R : Room} {s : State} {mid : MethodId} {args : Array Value} {below : List Frame} {meth : Method} {c : Code} {Q : State → Prop} (hC : CF G p R s mid args meth c m)
    {ad : Nat → Nat} {H : Heap} {locs : List Jvm.Loc} {cells slots : Nat} {lsr : Array Slot} (hY : DY G s m ad ls st σ M H locs lsr) (hrest : okS σ rest) (hcl : cells + sN σ1 ≤ R.cells + sN σ) (hsl : slots + sS σ1 ≤ R.slots + sS σ)
    (hE : ∀ (pc2 npc a b d w : Nat) (ins : Instr) (cv : Value) (sw : List (Int32 × Nat)) (lsr2 : Array Slot) (H2 : Heap) (locs2 : List Jvm.Loc) (ad2 : Nat → Nat), fe (mC m) pc2 = some (ins, npc, a, b, d, w, cv, sw) → RT ins r cv → HP G ad2 σ1 M1 H2 → AG σ ad ad2 → va_S (AA G) s.heap H2 locs2 → wfS σ1 → W p l e R s mid args below meth c H2 locs2 R.cells R.slots Q (F0 mid pc2 lsr2 r.toList))
    {u : Nat → Nat} {H1 : Heap} {locs1 : List Jvm.Loc} (hag : AG σ ad u) (hwf2 : wfS σ2) (hHP : HP G u σ2 M2 H1) (hS1 : va_S (AA G) s.heap H1 locs1) :
    W p l e R s mid args below meth c H1 locs1 (cells + (sN σ2 - sN σ)) (slots + (sS σ2 - sS σ)) Q (F0 mid npc lsr (r1.toList ++ rest.map (amap ad))) := by
  obtain ⟨-, hZ, -, hwf, -, hol, hl, hlen⟩ := id hY
  have hro := exec_ro hc
  have hg1 := exec_grow hc
  have hg2 := exec_grow hex
  have h9 : ∀ i, sT σ i = 9 → sT σ2 i = 9 := fun i hi => (hro.1 i).mpr hi
  have hok : okS σ2 (pushR r1 rest) := by
    rcases exec_ret hc with ⟨rfl, -⟩ | ⟨v, rfl, -⟩
    · exact okS_to hg1.1 h9 hrest
    · exact okS_c okV_i (okS_to hg1.1 h9 hrest)
  have key := ih m npc ls (pushR r1 rest) σ2 M2 r σ1 M1 hex G p l e R s mid args below meth c Q hC u H1 locs1 (cells + (sN σ2 - sN σ)) (slots + (sS σ2 - sS σ)) lsr ⟨hHP, hZ.to hro.1 (fun i hi => ⟨hag i (Or.inr hi), hro.2 i hi⟩), hS1, hwf2, hok, okL_to hg1.1 h9 hol, asc_ag hag hol hl, hlen⟩ (by omega) (by omega) (fun pc2 npc a b d w ins cv sw lsr2 H2 locs2 ad2 g1 g2 g3 g4 g5 g6 => hE pc2 npc a b d w ins cv sw lsr2 H2 locs2 ad2 g1 g2 g3 (fun k hk => (g4 k (hk.elim (fun q => Or.inl (Nat.lt_of_lt_of_le q hg1.1)) (fun q => Or.inr (h9 k q)))).trans (hag k hk)) g5 g6)
  rcases exec_ret hc with ⟨rfl, -⟩ | ⟨v, rfl, -⟩
  · rw [show pushR none rest = rest from rfl, amap_agS hag hrest] at key
    exact key
  · rw [show pushR (some (.int v)) rest = .int v :: rest from rfl, List.map_cons, amap_agS hag hrest] at key
    exact key
theorem gi_wsV {j idx m : Nat} (h1 : Cond.methodLink (mO m) idx (mY j) ∈ lw_tbl) (hgm : GM j) (h2 : Cond.instanceMethod (mY j) ∈ lw_tbl) (h3 : Cond.selects (mY j).cls (mY j) (mY j) ∈ lw_tbl) : GoodIn lwG (wsV (mO m) idx (mY j).cls (mY j) (wsM j)) := fun w hw => by
  unfold wsV at hw
  rcases List.mem_append.mp hw with hw | hw
  · simp only [List.mem_cons, List.not_mem_nil, or_false] at hw
    rcases hw with rfl | rfl | rfl | rfl
    · exact ⟨lwG_of h1 rfl, good_of_word rfl⟩
    · exact ⟨lwG_of h2 rfl, good_of_word rfl⟩
    · exact ⟨lwG_of h3 rfl, good_of_word rfl⟩
    · exact ⟨lwG_of hgm.2.1 rfl, good_of_word rfl⟩
  · exact gi_wsM hgm.1 w hw
theorem gi_wsS {j idx m : Nat} (h1 : Cond.methodLink (mO m) idx (mY j) ∈ lw_tbl) (hgm : GM j) (h2 : Cond.static (mY j) ∈ lw_tbl) : GoodIn lwG (va_wsS (mO m) idx (mY j) (wsM j)) := fun w hw => by
  unfold va_wsS at hw
  rcases List.mem_append.mp hw with hw | hw
  · simp only [List.mem_cons, List.not_mem_nil, or_false] at hw
    rcases hw with rfl | rfl | rfl
    · exact ⟨lwG_of h1 rfl, good_of_word rfl⟩
    · exact ⟨lwG_of h2 rfl, good_of_word rfl⟩
    · exact ⟨lwG_of hgm.2.1 rfl, good_of_word rfl⟩
  · exact gi_wsM hgm.1 w hw
/-- the stack at a call -/
theorem st_call {ad : Nat → Nat} {st rest args : List Value} {n : Nat} (h : popA n st [] = some (args, rest)) : st = args.reverse ++ rest ∧ args.length = n := by
  obtain ⟨q, h1, h2, h3⟩ := popA_some h
  rw [List.append_nil] at h2
  subst h2
  exact ⟨by rw [List.reverse_reverse]; exact h1, by rw [List.length_reverse]; exact h3⟩
set_option maxHeartbeats 4000000 in
theorem fs_invokevirtual {f : Nat} (ih : FS f) (idx : Nat) : FSat f (.invokevirtual idx) := by
  intro m pc npc a b d w cv sw ls st σ M r σ1 M1 he hex G p l e R s mid args below meth c Q hC ad H locs cells slots lsr hY hcl hsl hE
  obtain ⟨hx, hb, hml, hown, hts, hKU, hini, hfr, hlo, hz⟩ := id hC
  obtain ⟨⟨hP, hD⟩, hZ, hS, hwf, hos, hol, hl, hlen⟩ := id hY
  have hg := fe_good he
  have hk := fe_link he
  have hd := dec_of_good hg
  rw [exec, he] at hex
  dsimp only at hex
  simp only [good, Bool.and_eq_true, decide_eq_true_eq] at hg
  cases hs : stA (.invokevirtual idx) npc a b d cv sw ls st σ M with
  | none => rw [hs] at hex; cases hex
  | some res =>
  rw [hs] at hex
  obtain ⟨-, ⟨⟨⟨rfl, ha9⟩, hd10, hd8⟩, hrank⟩, hab0⟩ := hg
  rw [Nat.add_sub_cancel_left] at hd
  simp only [stA] at hs
  simp only [LkP] at hk
  have hgm := hk.2.2.1
  have hab : nOf cv + b = mL a := by
    unfold argN at hab0
    split at hab0
    · exact (of_decide_eq_true hab0).2
    · cases hab0
  obtain ⟨vs, rest, hp, hle, hnl, rfl, hrc⟩ := doCall_some hs
  obtain ⟨hst, hn⟩ := st_call (ad := ad) hp
  have hrest : okS σ rest := fun v hv => hos v (by rw [hst]; exact List.mem_append_right _ hv)
  have hvs : okS σ vs := fun v hv => hos v (by rw [hst]; exact List.mem_append_left _ (List.mem_reverse.mpr hv))
  have hex2 : (match exec f a 0 (iniL vs b) [] σ M with
    | none => none
    | some (r, σ1, M1) => exec f m (pc + 3) ls (pushR r rest) σ1 M1) = some (r, σ1, M1) := hex
  cases hc : exec f a 0 (iniL vs b) [] σ M with
  | none => rw [hc] at hex2; cases hex2
  | some res2 =>
  obtain ⟨r2, σ2, M2⟩ := res2
  rw [hc] at hex2
  have hg1 := exec_grow hc
  have hg2 := exec_grow hex2
  have hroom : (rmM a (sN σ2 - sN σ) (sS σ2 - sS σ)).frames + 1 ≤ R.frames ∧ 8 + (mL a + 11) + (rmM a (sN σ2 - sN σ) (sS σ2 - sS σ)).locals ≤ R.locals := by
    have hml17 := hgm.2.2.2.2.1
    refine ⟨?_, ?_⟩
    · show mK a + 1 ≤ R.frames
      omega
    · show 8 + (mL a + 11) + 36 * mK a ≤ R.locals
      omega
  have hspace : cells + (sN σ2 - sN σ) ≤ R.cells ∧ slots + (sS σ2 - sS σ) ≤ R.slots := ⟨by omega, by omega⟩
  have hU : ∀ U : State, U.heap = H → s.WarmedH U.vm → PB G ad σ M U := fun U hUH hW => ⟨by rw [hUH]; exact ⟨hP, hD⟩, hKU.warm hW, (ZU.moved hW.alike (ZU.kept hZ hS.2.1)) |> fun q => by rw [hUH]; exact q, by rw [hUH]; exact Nat.le_trans hz hS.1⟩
  
  obtain ⟨hcls, hlk, hgm, hi1, hi2, hnp⟩ := hk
  obtain ⟨o, tl, rfl, hto⟩ := hrc (by omega)
  have hbl : (Value.ref o :: tl).length + b = mL a := by rw [hn]; exact hab
  have ho : o < sN σ := okA_obj (okS_h hvs o rfl) (by omega)
  have hcw := cw_get (G := G) (ad := ad) (M := M) ho
  rw [ent_obj hto (by omega)] at hcw
  have hrecv := va_recv hKU.1 hP (vw_ok _ hd8) hcw
  have hcw2 := cwV (R := R) (s := s) (args := args) (own := mO m) (C := (mY a).cls) (index := idx) (y := mY a) (bytes := mB a) (maxL := mL a) (ret := mR a) (rm := rmM a (sN σ2 - sN σ) (sS σ2 - sS σ)) (mc := sN σ2 - sN σ) (ms := sS σ2 - sS σ) tl.length hts (gi_wsV hlk hgm hi1 hi2) rfl rfl rfl ⟨rfl, hgm.2.2.1.1, hgm.2.2.1.2, by
    have h1 : nP a = some (nOf cv - 1) := hnp
    rw [← hn] at h1
    exact h1⟩ hroom
  have hstk : st.map (amap ad) = (tl.map (amap ad)).reverse ++ .ref (ad o) :: rest.map (amap ad) := by rw [hst]; simp [amap]
  rw [hstk]
  
  rcases exec_ret hc with ⟨rfl, hnone⟩ | ⟨v, rfl, hsome⟩
  · have hM := met_in ih hc hgm hbl hnl hwf hvs G ad l (va_Qv (fun u : Nat → Nat => AG σ ad u ∧ wfS σ2) (fun u t => HP G u σ2 M2 t.heap) (AA G)) (fun s t _ ad2 q1 q2 q3 q4 => ⟨⟨ad2, rfl, ⟨q1, q2⟩, q3⟩, q4⟩)
    exact va_callv (va_runV (C := (mY a).cls) (b := ad o) (As := tl.map (amap ad)) (rest := rest.map (amap ad)) (nL := mL m) ⟨hx, hb, hml, hown, hts⟩ hM hcw2 ⟨PB.blind, by rw [hcls]; exact hrecv, fun U hUH hW => ⟨rfl, hU U hUH hW⟩⟩ rfl (List.length_map _) hl.1 rfl (lv_room (le4_cat hle)) hd hspace) hS (fun _ _ h => h) (fun _ h => h) (fun u t H1 locs1 ht hvm hw hB hz1 hk1 hS1 => fs_back ih hc hex2 hC hY hrest hcl hsl hE hw.1 hw.2 (by rw [← ht]; exact hB) hS1)
  · have hM := met_in ih hc hgm hbl hnl hwf hvs G ad l (va_Qi (fun (x : Int32) (u : Nat → Nat) => x = v ∧ AG σ ad u ∧ wfS σ2) (fun u t => HP G u σ2 M2 t.heap) (AA G)) (fun s t _ ad2 q1 q2 q3 q4 => ⟨⟨v, ad2, rfl, ⟨rfl, q1, q2⟩, q3⟩, q4⟩)
    exact va_calli (va_runV (C := (mY a).cls) (b := ad o) (As := tl.map (amap ad)) (rest := rest.map (amap ad)) (nL := mL m) ⟨hx, hb, hml, hown, hts⟩ hM hcw2 ⟨PB.blind, by rw [hcls]; exact hrecv, fun U hUH hW => ⟨rfl, hU U hUH hW⟩⟩ rfl (List.length_map _) hl.1 rfl (lv_room (le4_cat hle)) hd hspace) hS (fun _ _ h => h) (fun _ h => h) (fun x u t H1 locs1 ht hvm hw hB hz1 hk1 hS1 => by obtain ⟨rfl, hw1, hw2⟩ := hw; exact fs_back ih hc hex2 hC hY hrest hcl hsl hE hw1 hw2 (by rw [← ht]; exact hB) hS1)
set_option maxHeartbeats 4000000 in
theorem fs_invokestatic {f : Nat} (ih : FS f) (idx : Nat) : FSat f (.invokestatic idx) := by
  intro m pc npc a b d w cv sw ls st σ M r σ1 M1 he hex G p l e R s mid args below meth c Q hC ad H locs cells slots lsr hY hcl hsl hE
  obtain ⟨hx, hb, hml, hown, hts, hKU, hini, hfr, hlo, hz⟩ := id hC
  obtain ⟨⟨hP, hD⟩, hZ, hS, hwf, hos, hol, hl, hlen⟩ := id hY
  have hg := fe_good he
  have hk := fe_link he
  have hd := dec_of_good hg
  rw [exec, he] at hex
  dsimp only at hex
  simp only [good, Bool.and_eq_true, decide_eq_true_eq] at hg
  cases hs : stA (.invokestatic idx) npc a b d cv sw ls st σ M with
  | none => rw [hs] at hex; cases hex
  | some res =>
  rw [hs] at hex
  obtain ⟨-, rfl, hg2⟩ := hg
  rw [Nat.add_sub_cancel_left] at hd
  simp only [stA] at hs
  by_cases hd0 : d = 0
  · subst hd0
    rw [if_pos rfl] at hg2
    simp only [Bool.and_eq_true, decide_eq_true_eq] at hg2
    obtain ⟨⟨ha9, hrank⟩, hab0⟩ := hg2
    rw [if_pos ha9] at hs
    simp only [LkP] at hk
    have hgm := hk.2.1
    have hab : nOf cv + b = mL a := by
      unfold argN at hab0
      split at hab0
      · exact (of_decide_eq_true hab0).2
      · cases hab0
  
    obtain ⟨vs, rest, hp, hle, hnl, rfl, hrc⟩ := doCall_some hs
    obtain ⟨hst, hn⟩ := st_call (ad := ad) hp
    have hrest : okS σ rest := fun v hv => hos v (by rw [hst]; exact List.mem_append_right _ hv)
    have hvs : okS σ vs := fun v hv => hos v (by rw [hst]; exact List.mem_append_left _ (List.mem_reverse.mpr hv))
    have hex2 : (match exec f a 0 (iniL vs b) [] σ M with
      | none => none
      | some (r, σ1, M1) => exec f m (pc + 3) ls (pushR r rest) σ1 M1) = some (r, σ1, M1) := hex
    cases hc : exec f a 0 (iniL vs b) [] σ M with
    | none => rw [hc] at hex2; cases hex2
    | some res2 =>
    obtain ⟨r2, σ2, M2⟩ := res2
    rw [hc] at hex2
    have hg1 := exec_grow hc
    have hg2 := exec_grow hex2
    have hroom : (rmM a (sN σ2 - sN σ) (sS σ2 - sS σ)).frames + 1 ≤ R.frames ∧ 8 + (mL a + 11) + (rmM a (sN σ2 - sN σ) (sS σ2 - sS σ)).locals ≤ R.locals := by
      have hml17 := hgm.2.2.2.2.1
      refine ⟨?_, ?_⟩
      · show mK a + 1 ≤ R.frames
        omega
      · show 8 + (mL a + 11) + 36 * mK a ≤ R.locals
        omega
    have hspace : cells + (sN σ2 - sN σ) ≤ R.cells ∧ slots + (sS σ2 - sS σ) ≤ R.slots := ⟨by omega, by omega⟩
    have hU : ∀ U : State, U.heap = H → s.WarmedH U.vm → PB G ad σ M U := fun U hUH hW => ⟨by rw [hUH]; exact ⟨hP, hD⟩, hKU.warm hW, (ZU.moved hW.alike (ZU.kept hZ hS.2.1)) |> fun q => by rw [hUH]; exact q, by rw [hUH]; exact Nat.le_trans hz hS.1⟩
  
    obtain ⟨hlk, hgm2, hi1, hnp⟩ := hk
    have hbl : vs.length + b = mL a := by rw [hn]; exact hab
    have hnp2 : nP a = some (vs.map (amap ad)).length := by rw [List.length_map, hn]; exact hnp
    have hstk : st.map (amap ad) = (vs.map (amap ad)).reverse ++ rest.map (amap ad) := by rw [hst]; simp
    rw [hstk]
    rcases hlk with hlk | hlk
    · rcases exec_ret hc with ⟨rfl, hnone⟩ | ⟨v, rfl, hsome⟩
      · have hM := met_in ih hc hgm hbl hnl hwf hvs G ad l (va_Qv (fun u : Nat → Nat => AG σ ad u ∧ wfS σ2) (fun u t => HP G u σ2 M2 t.heap) (AA G)) (fun s t _ ad2 q1 q2 q3 q4 => ⟨⟨ad2, rfl, ⟨q1, q2⟩, q3⟩, q4⟩)
        exact va_callv (va_runS (As := vs.map (amap ad)) (rest := rest.map (amap ad)) (nL := mL m) ⟨hx, hb, hml, hown, hts⟩ hM (va_cwS (R := R) (s := s) (args := args) (own := mO m) (index := idx) (y := mY a) (bytes := mB a) (maxL := mL a) (ret := mR a) (rm := rmM a (sN σ2 - sN σ) (sS σ2 - sS σ)) (mc := sN σ2 - sN σ) (ms := sS σ2 - sS σ) (vs.map (amap ad)).length hts (gi_wsS hlk hgm hi1) rfl rfl rfl ⟨hgm.2.2.1.1, hgm.2.2.1.2, hnp2⟩ hroom) ⟨PB.blind, fun U hUH hW => ⟨rfl, hU U hUH hW⟩⟩ rfl rfl hl.1 rfl (lv_room (le4_cat hle)) hd hspace) hS (fun _ _ h => h) (fun _ h => h) (fun u t H1 locs1 ht hvm hw hB hz1 hk1 hS1 => fs_back ih hc hex2 hC hY hrest hcl hsl hE hw.1 hw.2 (by rw [← ht]; exact hB) hS1)
      · have hM := met_in ih hc hgm hbl hnl hwf hvs G ad l (va_Qi (fun (x : Int32) (u : Nat → Nat) => x = v ∧ AG σ ad u ∧ wfS σ2) (fun u t => HP G u σ2 M2 t.heap) (AA G)) (fun s t _ ad2 q1 q2 q3 q4 => ⟨⟨v, ad2, rfl, ⟨rfl, q1, q2⟩, q3⟩, q4⟩)
        exact va_calli (va_runS (As := vs.map (amap ad)) (rest := rest.map (amap ad)) (nL := mL m) ⟨hx, hb, hml, hown, hts⟩ hM (va_cwS (R := R) (s := s) (args := args) (own := mO m) (index := idx) (y := mY a) (bytes := mB a) (maxL := mL a) (ret := mR a) (rm := rmM a (sN σ2 - sN σ) (sS σ2 - sS σ)) (mc := sN σ2 - sN σ) (ms := sS σ2 - sS σ) (vs.map (amap ad)).length hts (gi_wsS hlk hgm hi1) rfl rfl rfl ⟨hgm.2.2.1.1, hgm.2.2.1.2, hnp2⟩ hroom) ⟨PB.blind, fun U hUH hW => ⟨rfl, hU U hUH hW⟩⟩ rfl rfl hl.1 rfl (lv_room (le4_cat hle)) hd hspace) hS (fun _ _ h => h) (fun _ h => h) (fun x u t H1 locs1 ht hvm hw hB hz1 hk1 hS1 => by obtain ⟨rfl, hw1, hw2⟩ := hw; exact fs_back ih hc hex2 hC hY hrest hcl hsl hE hw1 hw2 (by rw [← ht]; exact hB) hS1)
    · rcases exec_ret hc with ⟨rfl, hnone⟩ | ⟨v, rfl, hsome⟩
      · have hM := met_in ih hc hgm hbl hnl hwf hvs G ad l (va_Qv (fun u : Nat → Nat => AG σ ad u ∧ wfS σ2) (fun u t => HP G u σ2 M2 t.heap) (AA G)) (fun s t _ ad2 q1 q2 q3 q4 => ⟨⟨ad2, rfl, ⟨q1, q2⟩, q3⟩, q4⟩)
        exact va_callv (va_runSN (host := "AntTrails") (As := vs.map (amap ad)) (rest := rest.map (amap ad)) (nL := mL m) ⟨hx, hb, hml, hown, hts⟩ hM ⟨va_cnB (R := R) (s := s) (args := args) (own := mO m) (host := "AntTrails") (index := idx) (y := mY a) (bytes := mB a) (maxL := mL a) (ret := mR a) (rm := rmM a (sN σ2 - sN σ) (sS σ2 - sS σ)) (mc := sN σ2 - sN σ) (ms := sS σ2 - sS σ) (vs.map (amap ad)).length hts (gi_wsM hgm.1) rfl rfl rfl (hKU.2.2.1 _ _ _ _ hlk) (hts _ (lwG_of hgm.2.1 rfl)) ⟨hgm.2.2.1.1, hgm.2.2.1.2, hnp2⟩ hroom, hts _ (lwG_of hi1 rfl), trivial⟩ ⟨PB.blind, fun U hUH hW => ⟨rfl, hU U hUH hW⟩⟩ rfl rfl hl.1 rfl (lv_room (le4_cat hle)) hd hspace) hS (fun _ _ h => h) (fun _ h => h) (fun u t H1 locs1 ht hvm hw hB hz1 hk1 hS1 => fs_back ih hc hex2 hC hY hrest hcl hsl hE hw.1 hw.2 (by rw [← ht]; exact hB) hS1)
      · have hM := met_in ih hc hgm hbl hnl hwf hvs G ad l (va_Qi (fun (x : Int32) (u : Nat → Nat) => x = v ∧ AG σ ad u ∧ wfS σ2) (fun u t => HP G u σ2 M2 t.heap) (AA G)) (fun s t _ ad2 q1 q2 q3 q4 => ⟨⟨v, ad2, rfl, ⟨rfl, q1, q2⟩, q3⟩, q4⟩)
        exact va_calli (va_runSN (host := "AntTrails") (As := vs.map (amap ad)) (rest := rest.map (amap ad)) (nL := mL m) ⟨hx, hb, hml, hown, hts⟩ hM ⟨va_cnB (R := R) (s := s) (args := args) (own := mO m) (host := "AntTrails") (index := idx) (y := mY a) (bytes := mB a) (maxL := mL a) (ret := mR a) (rm := rmM a (sN σ2 - sN σ) (sS σ2 - sS σ)) (mc := sN σ2 - sN σ) (ms := sS σ2 - sS σ) (vs.map (amap ad)).length hts (gi_wsM hgm.1) rfl rfl rfl (hKU.2.2.1 _ _ _ _ hlk) (hts _ (lwG_of hgm.2.1 rfl)) ⟨hgm.2.2.1.1, hgm.2.2.1.2, hnp2⟩ hroom, hts _ (lwG_of hi1 rfl), trivial⟩ ⟨PB.blind, fun U hUH hW => ⟨rfl, hU U hUH hW⟩⟩ rfl rfl hl.1 rfl (lv_room (le4_cat hle)) hd hspace) hS (fun _ _ h => h) (fun _ h => h) (fun x u t H1 locs1 ht hvm hw hB hz1 hk1 hS1 => by obtain ⟨rfl, hw1, hw2⟩ := hw; exact fs_back ih hc hex2 hC hY hrest hcl hsl hE hw1 hw2 (by rw [← ht]; exact hB) hS1)
  · rw [if_neg hd0] at hg2
    simp only [Bool.and_eq_true, decide_eq_true_eq] at hg2
    obtain ⟨hrk, ha9, hd3⟩ := hg2
    rw [if_neg (by omega)] at hs
    have nx : ∀ (pc1 : Nat) (st1 : List Value), exec f m pc1 ls st1 σ M = some (r, σ1, M1) → okS σ st1 → W p l e R s mid args below meth c H locs cells slots Q (F0 mid pc1 lsr (st1.map (amap ad))) := fun pc1 st1 h1 h2 => ih m pc1 ls st1 σ M r σ1 M1 h1 G p l e R s mid args below meth c Q hC ad H locs cells slots lsr ⟨⟨hP, hD⟩, hZ, hS, hwf, h2, hol, hl, hlen⟩ hcl hsl hE
    rcases (show d = 1 ∨ d = 2 ∨ d = 3 by omega) with rfl | rfl | rfl
    · simp only [LkP] at hk
      subst ha9
      simp only [spec] at hs
      rw [if_neg (by decide), if_pos (by decide)] at hs
      obtain ⟨y, r1, e1, hs1⟩ := pI_some hs
      obtain ⟨x, r2, e2, hs2⟩ := pI_some hs1
      subst e2
      subst e1
      obtain ⟨hle, hs3⟩ := gd_some hs2
      obtain rfl := go_inl hs3
      have hsum := le4_cat (ad := ad) hle
      have hgr := exec_grow (show exec f m (pc + 3) ls (.int (if x < y then y else x) :: r2) σ M = some (r, σ1, M1) from hex)
      exact va_mmax hx hb (hml.trans hl.1.symm) hown (hts _ (lwG_of hk rfl)) (hts _ (lwG_of wk_ms rfl)) (hts _ (lwG_of wk_mi rfl)) (hts _ (lwG_of wk_mc rfl)) (by omega) (by omega) (by omega) (by omega) hd (nx _ _ hex (okS_c okV_i (okS_t (okS_t hos))))
    · simp only [LkP] at hk
      subst ha9
      simp only [spec] at hs
      rw [if_neg (by decide), if_neg (by decide), if_pos (by decide)] at hs
      obtain ⟨y, r1, e1, hs1⟩ := pI_some hs
      obtain ⟨x, r2, e2, hs2⟩ := pI_some hs1
      subst e2
      subst e1
      obtain ⟨hle, hs3⟩ := gd_some hs2
      obtain rfl := go_inl hs3
      have hsum := le4_cat (ad := ad) hle
      have hgr := exec_grow (show exec f m (pc + 3) ls (.int (if y < x then y else x) :: r2) σ M = some (r, σ1, M1) from hex)
      exact va_mmin hx hb (hml.trans hl.1.symm) hown (hts _ (lwG_of hk rfl)) (hts _ (lwG_of wk_ns rfl)) (hts _ (lwG_of wk_mi rfl)) (hts _ (lwG_of wk_nc rfl)) (by omega) (by omega) (by omega) (by omega) hd (nx _ _ hex (okS_c okV_i (okS_t (okS_t hos))))
    · simp only [LkP] at hk
      subst ha9
      simp only [spec] at hs
      rw [if_neg (by decide), if_neg (by decide), if_neg (by decide)] at hs
      obtain ⟨x, r1, e1, hs1⟩ := pF_some hs
      subst e1
      obtain ⟨hle, hs2⟩ := gd_some hs1
      obtain rfl := go_inl hs2
      have hsum := le4_cat (ad := ad) hle
      exact vn_f2i hx hb (hml.trans hl.1.symm) hown (hts _ (lwG_of hk rfl)) (hts _ (lwG_of wk_fn rfl)) (hts _ (lwG_of wk_fs rfl)) (hts _ (lwG_of wk_fi rfl)) (by omega) (by omega) hd (nx _ _ hex (okS_c okV_i (okS_t hos)))
set_option maxHeartbeats 4000000 in
theorem fs_invokespecial {f : Nat} (ih : FS f) (idx : Nat) : FSat f (.invokespecial idx) := by
  intro m pc npc a b d w cv sw ls st σ M r σ1 M1 he hex G p l e R s mid args below meth c Q hC ad H locs cells slots lsr hY hcl hsl hE
  obtain ⟨hx, hb, hml, hown, hts, hKU, hini, hfr, hlo, hz⟩ := id hC
  obtain ⟨⟨hP, hD⟩, hZ, hS, hwf, hos, hol, hl, hlen⟩ := id hY
  have hg := fe_good he
  have hk := fe_link he
  have hd := dec_of_good hg
  rw [exec, he] at hex
  dsimp only at hex
  simp only [good, Bool.and_eq_true, decide_eq_true_eq] at hg
  cases hs : stA (.invokespecial idx) npc a b d cv sw ls st σ M with
  | none => rw [hs] at hex; cases hex
  | some res =>
  rw [hs] at hex
  obtain ⟨-, rfl, hg2⟩ := hg
  rw [Nat.add_sub_cancel_left] at hd
  simp only [stA] at hs
  by_cases hd0 : d = 0
  · subst hd0
    rw [if_pos rfl] at hg2
    simp only [Bool.and_eq_true, decide_eq_true_eq] at hg2
    obtain ⟨hrk, ha9⟩ := hg2
    subst ha9
    rw [if_neg (by decide)] at hs
    simp only [LkP] at hk
    simp only [spec] at hs
    rw [if_pos (by decide)] at hs
    obtain ⟨x, r1, e1, hs1⟩ := pR_some hs
    subst e1
    obtain ⟨hle, hs2⟩ := gd_some hs1
    obtain rfl := go_inl hs2
    have hsum := le4_cat (ad := ad) hle
    refine W.objInit hx hb hown (hts _ (lwG_of hk rfl)) (hts _ (lwG_of wk_oi rfl)) (hts _ (lwG_of wk_oc rfl)) rfl (hl.1.trans hml.symm) rfl hd (by omega) (by show 2 * 0 + _ + 12 ≤ _; omega) ?_
    exact ih m (pc + 3) ls r1 σ M r σ1 M1 hex G p l e R s mid args below meth c Q hC ad H locs cells slots lsr ⟨⟨hP, hD⟩, hZ, hS, hwf, okS_t hos, hol, hl, hlen⟩ hcl hsl hE
  · rw [if_neg hd0] at hg2
    simp only [Bool.and_eq_true, decide_eq_true_eq] at hg2
    obtain ⟨⟨⟨ha9, hd10, hd8⟩, hrank⟩, hab0⟩ := hg2
    rw [if_pos ha9] at hs
    have hk : (mY a).cls = cN (d - 10) ∧ LM m idx a ∧ GM a ∧ IM a cv := by
      simp only [LkP] at hk
      exact hk
    have hgm := hk.2.2.1
    have hab : nOf cv + b = mL a := by
      unfold argN at hab0
      split at hab0
      · exact (of_decide_eq_true hab0).2
      · cases hab0
  
    obtain ⟨vs, rest, hp, hle, hnl, rfl, hrc⟩ := doCall_some hs
    obtain ⟨hst, hn⟩ := st_call (ad := ad) hp
    have hrest : okS σ rest := fun v hv => hos v (by rw [hst]; exact List.mem_append_right _ hv)
    have hvs : okS σ vs := fun v hv => hos v (by rw [hst]; exact List.mem_append_left _ (List.mem_reverse.mpr hv))
    have hex2 : (match exec f a 0 (iniL vs b) [] σ M with
      | none => none
      | some (r, σ1, M1) => exec f m (pc + 3) ls (pushR r rest) σ1 M1) = some (r, σ1, M1) := hex
    cases hc : exec f a 0 (iniL vs b) [] σ M with
    | none => rw [hc] at hex2; cases hex2
    | some res2 =>
    obtain ⟨r2, σ2, M2⟩ := res2
    rw [hc] at hex2
    have hg1 := exec_grow hc
    have hg2 := exec_grow hex2
    have hroom : (rmM a (sN σ2 - sN σ) (sS σ2 - sS σ)).frames + 1 ≤ R.frames ∧ 8 + (mL a + 11) + (rmM a (sN σ2 - sN σ) (sS σ2 - sS σ)).locals ≤ R.locals := by
      have hml17 := hgm.2.2.2.2.1
      refine ⟨?_, ?_⟩
      · show mK a + 1 ≤ R.frames
        omega
      · show 8 + (mL a + 11) + 36 * mK a ≤ R.locals
        omega
    have hspace : cells + (sN σ2 - sN σ) ≤ R.cells ∧ slots + (sS σ2 - sS σ) ≤ R.slots := ⟨by omega, by omega⟩
    have hU : ∀ U : State, U.heap = H → s.WarmedH U.vm → PB G ad σ M U := fun U hUH hW => ⟨by rw [hUH]; exact ⟨hP, hD⟩, hKU.warm hW, (ZU.moved hW.alike (ZU.kept hZ hS.2.1)) |> fun q => by rw [hUH]; exact q, by rw [hUH]; exact Nat.le_trans hz hS.1⟩
  
    obtain ⟨hcls, hlk, hgm2, hi1, hinit2, hret, hnp⟩ := hk
    obtain ⟨o, tl, rfl, hto⟩ := hrc (by omega)
    have hbl : (Value.ref o :: tl).length + b = mL a := by rw [hn]; exact hab
    have hnp2 : nP a = some (tl.map (amap ad)).length := by
      have h1 : nP a = some (nOf cv - 1) := hnp
      rw [← hn] at h1
      rw [List.length_map]
      exact h1
    have hstk : st.map (amap ad) = (tl.map (amap ad)).reverse ++ .ref (ad o) :: rest.map (amap ad) := by rw [hst]; simp [amap]
    rw [hstk]
    obtain rfl : r2 = none := by
      rcases exec_ret hc with ⟨q, -⟩ | ⟨v, -, q⟩
      · exact q
      · exact absurd hret q
    have hM := met_in ih hc hgm hbl hnl hwf hvs G ad l (va_Qv (fun u : Nat → Nat => AG σ ad u ∧ wfS σ2) (fun u t => HP G u σ2 M2 t.heap) (AA G)) (fun s t _ ad2 q1 q2 q3 q4 => ⟨⟨ad2, rfl, ⟨q1, q2⟩, q3⟩, q4⟩)
    have hwsn : wsM a = Cond.code (mY a) (mB a) (mL a) none :: lwG := by unfold wsM; rw [hret]
    rcases hlk with hlk | hlk
    · exact va_callv (va_runI (b := ad o) (As := tl.map (amap ad)) (rest := rest.map (amap ad)) (nL := mL m) ⟨hx, hb, hml, hown, hts⟩ hM (cwI (R := R) (s := s) (args := args) (own := mO m) (index := idx) (y := mY a) (bytes := mB a) (maxL := mL a) (ws := wsM a) (ws' := lwG) (rm := rmM a (sN σ2 - sN σ) (sS σ2 - sS σ)) (mc := sN σ2 - sN σ) (ms := sS σ2 - sS σ) (tl.map (amap ad)).length hts (gi_wsM hgm.1) hwsn rfl rfl (hts _ (lwG_of hgm.2.1 rfl)) (hts _ (lwG_of hlk rfl)) (hts _ (lwG_of hi1 rfl)) hinit2 ⟨hgm.2.2.1.1, hgm.2.2.1.2, hnp2⟩ hroom) ⟨PB.blind, fun U hUH hW => ⟨rfl, hU U hUH hW⟩⟩ rfl rfl hl.1 rfl (lv_room (le4_cat hle)) hd hspace) hS (fun _ _ h => h) (fun _ h => h) (fun u t H1 locs1 ht hvm hw hB hz1 hk1 hS1 => fs_back ih hc hex2 hC hY hrest hcl hsl hE hw.1 hw.2 (by rw [← ht]; exact hB) hS1)
    · exact va_callv (va_runIN (host := "AntTrails") (b := ad o) (As := tl.map (amap ad)) (rest := rest.map (amap ad)) (nL := mL m) ⟨hx, hb, hml, hown, hts⟩ hM ⟨va_cnB (R := R) (s := s) (args := args) (own := mO m) (host := "AntTrails") (index := idx) (y := mY a) (bytes := mB a) (maxL := mL a) (ret := none) (ws := wsM a) (ws' := lwG) (rm := rmM a (sN σ2 - sN σ) (sS σ2 - sS σ)) (mc := sN σ2 - sN σ) (ms := sS σ2 - sS σ) (tl.map (amap ad)).length hts (gi_wsM hgm.1) hwsn rfl rfl (hKU.2.2.1 _ _ _ _ hlk) (hts _ (lwG_of hgm.2.1 rfl)) ⟨hgm.2.2.1.1, hgm.2.2.1.2, hnp2⟩ hroom, hinit2, hts _ (lwG_of hi1 rfl)⟩ ⟨PB.blind, fun U hUH hW => ⟨rfl, hU U hUH hW⟩⟩ rfl rfl hl.1 rfl (lv_room (le4_cat hle)) hd hspace) hS (fun _ _ h => h) (fun _ h => h) (fun u t H1 locs1 ht hvm hw hB hz1 hk1 hS1 => fs_back ih hc hex2 hC hY hrest hcl hsl hE hw.1 hw.2 (by rw [← ht]; exact hB) hS1)
set_option maxHeartbeats 4000000 in
theorem fs_ireturn {f : Nat} (ih : FS f) : FSat f (.ireturn) := by
  intro m pc npc a b d w cv sw ls st σ M r σ1 M1 he hex G p l e R s mid args below meth c Q hC ad H locs cells slots lsr hY hcl hsl hE
  obtain ⟨hx, hb, hml, hown, hts, hKU, hini, hfr, hlo, hz⟩ := id hC
  obtain ⟨⟨hP, hD⟩, hZ, hS, hwf, hos, hol, hl, hlen⟩ := id hY
  have hg := fe_good he
  have hk := fe_link he
  have hd := dec_of_good hg
  rw [exec, he] at hex
  dsimp only at hex
  simp only [good, Bool.and_eq_true, decide_eq_true_eq] at hg
  cases hs : stA (.ireturn) npc a b d cv sw ls st σ M with
  | none => rw [hs] at hex; cases hex
  | some res =>
  rw [hs] at hex
  obtain ⟨-, rfl, hcv⟩ := hg
  rw [Nat.add_sub_cancel_left] at hd
  rcases stA_ret (show stA .ireturn (pc + 1) a b d cv sw ls st σ M = some (.inr (.inr (st.head?))) from by
    rw [hs]
    simp only [stA] at hs
    split at hs
    · obtain ⟨h1, h2⟩ := gd_some hs
      cases h2
      rfl
    · cases hs) with ⟨-, x, rfl, -, hok⟩ | ⟨q, -⟩
  · simp only [stA] at hs
    obtain ⟨h1, h2⟩ := gd_some hs
    cases h2
    cases hex
    have hcl2 : cells ≤ R.cells := by omega
    have hsl2 : slots ≤ R.slots := by omega
    exact W.widen hcl2 hsl2 (hE pc (pc + 1) a b d w .ireturn cv sw lsr H locs ad he (Or.inl ⟨x, rfl, rfl, hok⟩) ⟨hP, hD⟩ AG.rf hS hwf)
  · cases q
set_option maxHeartbeats 4000000 in
theorem fs_return {f : Nat} (ih : FS f) : FSat f (.return_) := by
  intro m pc npc a b d w cv sw ls st σ M r σ1 M1 he hex G p l e R s mid args below meth c Q hC ad H locs cells slots lsr hY hcl hsl hE
  obtain ⟨hx, hb, hml, hown, hts, hKU, hini, hfr, hlo, hz⟩ := id hC
  obtain ⟨⟨hP, hD⟩, hZ, hS, hwf, hos, hol, hl, hlen⟩ := id hY
  have hg := fe_good he
  have hk := fe_link he
  have hd := dec_of_good hg
  rw [exec, he] at hex
  dsimp only at hex
  simp only [good, Bool.and_eq_true, decide_eq_true_eq] at hg
  cases hs : stA (.return_) npc a b d cv sw ls st σ M with
  | none => rw [hs] at hex; cases hex
  | some res =>
  rw [hs] at hex
  obtain ⟨-, rfl, hcv⟩ := hg
  rw [Nat.add_sub_cancel_left] at hd
  simp only [stA] at hs
  split at hs
  · cases hs
    cases hex
    have hcl2 : cells ≤ R.cells := by omega
    have hsl2 : slots ≤ R.slots := by omega
    exact W.widen hcl2 hsl2 (hE pc (pc + 1) a b d w .return_ cv sw lsr H locs ad he (Or.inr ⟨rfl, rfl⟩) ⟨hP, hD⟩ AG.rf hS hwf)
  · cases hs
theorem fs_all : ∀ f, FS f
  | 0 => fun m pc ls st σ M r σ1 M1 h => by simp [exec] at h
  | f + 1 => by
    have ih := fs_all f
    intro m pc ls st σ M r σ1 M1 hex
    cases he : fe (mC m) pc with
    | none => rw [exec, he] at hex; cases hex
    | some x =>
    obtain ⟨ins, npc, a, b, d, w, cv, sw⟩ := x
    have hg := fe_good he
    have key : FSat f ins := by
      cases hh : hard ins with
      | false => exact fs_easy ih ins hh
      | true =>
        cases ins with
        | getfield k => exact fs_getfield ih k
        | putfield k => exact fs_putfield ih k
        | getstatic k => exact fs_getstatic ih k
        | arraylength => exact fs_arraylength ih
        | iaload => exact fs_iaload ih
        | caload => exact fs_caload ih
        | aaload => exact fs_aaload ih
        | iastore => exact fs_iastore ih
        | castore => exact fs_castore ih
        | aastore => exact fs_aastore ih
        | new k => exact fs_new ih k
        | newarray t =>
          simp only [good, Bool.and_eq_true, decide_eq_true_eq] at hg
          rcases hg.2.2 with rfl | rfl
          · exact fs_newI ih
          · exact fs_newC ih
        | anewarray k => exact fs_anewarray ih k
        | invokevirtual k => exact fs_invokevirtual ih k
        | invokestatic k => exact fs_invokestatic ih k
        | invokespecial k => exact fs_invokespecial ih k
        | ireturn => exact fs_ireturn ih
        | return_ => exact fs_return ih
        | _ => exact Bool.noConfusion (show false = true from hh)
    exact key m pc npc a b d w cv sw ls st σ M r σ1 M1 he hex
end
section
/-! THE CLAIM OUT OF ONE WALK OF THE LAW'S BODY. Your part is whole_start (and what it stands on); all else here is the same for every law, but numbers. -/
def R_law : String := "AntTrailsLaw"
def lw_P (b : Addr) (xs : List Int32) (args : Array Value) (s : State) : Prop := args = #[.ref b] ∧ s.IntsAt b xs ∧ xs.length ≤ 2048 ∧ (Jvm.Cond.and given_1 narrow_1).before args s = true
/-- what a walk over the start with the record d0 says of its end, said of the start itself -/
theorem lw_closed {s t : State} {o : Outcome} {d0 : Drawn} {L : List Loc} {k n : Nat} (hd0 : s.drawn.sameBut d0 lw_cs) (hv : ∃ v, o = .returned v) (hW : (s.setDrawn d0).WarmedH t.vm) (hs : (s.setDrawn d0).sameButNew ({ t with vm := s.vm } : State) L k n) : State.butDraws s t lw_cs (fun t1 => Framed s o t1 L k n) := by
  have h2 : t.drawn = d0 := congrArg State.drawn hs.1
  refine ⟨⟨hv, hW, State.sameButNew.setDrawn hs s.drawn⟩, ?_, by decide⟩
  rw [h2]
  exact hd0
def lw_Q (_ : Array Value) (s : State) (o : Outcome) (t : State) : Prop := o = .returned (some (.int 1)) ∧ State.butDraws s t lw_cs (fun t1 => Framed s o t1 [] 600000 7302250)
def lw_Z (below : List Frame) (a : Array Value) (s : State) : State → Prop := fun t => ∃ o, t.status = .running ∧ Ended t below o ∧ lw_Q a s o t
/-- the law's own end, with 1 on the stack, nothing written that was there before, its room as the claim has it; d0: the record of draws at this point (at the entry s.drawn: begin with 'refine W.base ?_' and 'have hd0 := Drawn.sameBut.refl s.drawn lw_cs') -/
theorem lw_ret {p : Program} {l : Launch} {e : Env} {s : State} {m : MethodId} {below : List Frame} {meth : Method} {c : Code} {b : Nat} {d0 : Drawn} (hd0 : s.drawn.sameBut d0 lw_cs) (hx : p.tables.exec = Jvm.exec) (hb : c.code = code) (hr : meth.sig.returnType = ret) (hlocks : meth.locks = false) {pc : Nat} {H : Heap} {ls : Array Slot} (hdg : decode code pc = .ok (.ireturn, 1)) : W p l e room_1 (s.setDrawn d0) m #[Value.ref b] below meth c H [] 600000 7302250 (lw_Z below #[Value.ref b] s) (F0 m pc ls [.int 1]) := by
  intro T hT X
  obtain ⟨fs, hret, hrun, hended, hW, hframe⟩ := X.leave (v := some (.int 1)) (hlocks := hlocks) (fun h => by rw [hr] at h; cases h)
  have hmeth' : T.vm.method? m = some meth := X.method'
  refine ⟨T.setFrames fs, ?_, .returned (some (.int 1)), hrun, hended, rfl, lw_closed hd0 ⟨_, rfl⟩ hW hframe⟩
  jvm_step X.here [X.here.top, hx, hb, hdg, hmeth', hr, ret, narrow_b1]
  (try refine ⟨rfl, ?_⟩); (try refine ⟨rfl, ?_⟩)
  first | (intro acts; rw [hret _ acts rfl rfl rfl]) | rw [hret _ _ rfl rfl rfl]
  exact Steps.refl _
/-- what holds at the law's entry: the machine, the code, the tables' words (any of lw_tbl by 'hts w (by decide +kernel)'), the script of L ints xs at the cell b, what the Statement gives of the start (any of its parts by flat_of_before) -/
def lw_At (p : Program) (s : State) (m : MethodId) (meth : Method) (c : Code) (b L : Nat) (xs : Nat → Int32) : Prop :=
  p.tables.exec = Jvm.exec ∧ c.code = code ∧ meth.sig.returnType = ret ∧ c.maxLocals = 4 ∧ s.vm.findClass R_law = some m.cls ∧ (∀ w ∈ lw_tbl, w.before #[Value.ref b] s = true) ∧ va_X b L xs s s.heap ∧ b < s.heap.size ∧ meth.locks = false ∧ (Jvm.Cond.and given_1 narrow_1).before #[Value.ref b] s = true
def at0 (k : Nat) : Int32 := match k with
  | 0 => 4
  | 1 => 20
  | 2 => 100
  | 3 => 1
  | 4 => 10
  | 5 => 1000
  | 6 => 60
  | _ => 0
def le0 (k : Nat) : Int32 := match k with
  | 0 => 1
  | 1 => 0
  | 2 => 1
  | 3 => 0
  | 4 => 1
  | 5 => 100
  | 6 => 1
  | _ => 0
def mo0 (k : Nat) : Int32 := match k with
  | 0 => 5
  | 1 => 90
  | 2 => 999
  | 3 => 9
  | 4 => 99
  | 5 => 9999
  | 6 => 99
  | _ => 0
def t0T (i : Nat) : Nat := if i = 1000 then 9 else if i = 1001 then 9 else if i = 1002 then 9 else if i = 1003 then 9 else 0
def t0L (L i : Nat) : Nat := if i = 1003 then L else 7
def s0 (L : Nat) : Sg := (0, 0, t0T, t0L L, fun _ _ => none)
def m0 (xs : Nat → Int32) : Mem := fun i => if i = 1000 then at0 else if i = 1001 then le0 else if i = 1002 then mo0 else if i = 1003 then xs else fun _ => 0
def qEnd : Po := fun r σ _ => r = some (.int 1) ∧ sN σ ≤ 600000 ∧ sS σ ≤ 7302250
/-- a row of numbers that the class keeps as a constant, out of the premises -/
theorem cst_row {s : State} {args : Array Value} {n : String} {f : Nat → Int32} (hg : (Jvm.Cond.and given_1 narrow_1).before args s = true) (hA : Cond.arrayOf (.static "AntTrails" n "[I") .int ∈ flatC (Jvm.Cond.and given_1 narrow_1)) (hl : Cond.eq (.length (.static "AntTrails" n "[I")) (.int 7) ∈ flatC (Jvm.Cond.and given_1 narrow_1)) (he : ∀ j, j < 7 → Cond.eq (.elem (.static "AntTrails" n "[I") (.int (Int32.ofNat j))) (.int (f j)) ∈ flatC (Jvm.Cond.and given_1 narrow_1)) {A : Nat → Prop} (hAA : ∀ a : Nat, a < s.heap.size → ¬ A a) (hlay : (Cond.laysStatic "AntTrails" n "[I").before args s = true) (hini : (Cond.initialized "AntTrails").before args s = true) : ∃ t : Nat, va_Z "AntTrails" n "[I" (.ref t) A s s.heap ∧ va_T .int t 7 (fun j => .int (f j)) A s s.heap := by
  have hs := flat_of_before _ hg
  obtain ⟨t, h1, h2⟩ := va_Tof (tm := .static "AntTrails" n "[I") (ty := .int) (N := 7) (f := fun j => .int (f j)) (A := A) (by decide) (hs _ hA) (va_eqt (z := 7) (hs _ hl)) (fun j hj => va_eqt (hs _ (he j hj))) hAA
  exact ⟨t, va_Zof hlay hini h1 hAA, h2⟩
theorem lt7 {P : Nat → Prop} (h0 : P 0) (h1 : P 1) (h2 : P 2) (h3 : P 3) (h4 : P 4) (h5 : P 5) (h6 : P 6) : ∀ j, j < 7 → P j := fun j hj => by
  match j, hj with
  | 0, _ => exact h0
  | 1, _ => exact h1
  | 2, _ => exact h2
  | 3, _ => exact h3
  | 4, _ => exact h4
  | 5, _ => exact h5
  | 6, _ => exact h6
  | j + 7, hj => exact absurd hj (by omega)
theorem wk_l0 : Cond.laysStatic "AntTrails" "AT_FIRST" "[I" ∈ lw_tbl := wd_106
theorem wk_l1 : Cond.laysStatic "AntTrails" "LEAST" "[I" ∈ lw_tbl := wd_512
theorem wk_l2 : Cond.laysStatic "AntTrails" "MOST" "[I" ∈ lw_tbl := wd_514
theorem wk_ia : Cond.initialized "AntTrails" ∈ lw_tbl := wd_52
theorem wk_ao : Cond.arrayOver (.object "AntTrails$Ground") ∈ lw_tbl := wd_195
theorem ka_of {s : State} {args : Array Value} (ty : FieldType) (h : (Cond.arrayClass ty).before args s = true) (hr : ∀ cA : ClassId, s.vm.findClass ("[" ++ ty.toString) = some cA → va_RA s cA ty) (hp : ty.isReference = false) : ∃ cA : ClassId, ArrOfT s cA ty ∧ va_RA s cA ty := by
  obtain ⟨cA, kA, comp, h1, h2, h3⟩ := Cond.arrayClass_spec h
  exact ⟨cA, fun n z => ⟨fun k q => (by cases q), kA, h2, comp, h3⟩, hr cA h1⟩
theorem ku_law {s : State} {args : Array Value} (hts : ∀ w ∈ lw_tbl, w.before args s = true) (hz : Nat) : ∃ G : PG, KU G s ∧ G.2.2.2.2 = hz := by
  have hk : ∀ c, ∃ q : ClassId × (Nat → Nat), c < 8 → u_Kn s (cN c) (cT c) (cF c) q.1 q.2 := by
    intro c
    by_cases hc : c < 8
    · obtain ⟨c0, i0, h⟩ := u_known hts (fun w hw => (List.mem_filter.mp (uw_ok c hc w hw)).1) (hts _ (in_ok c hc))
      exact ⟨(c0, i0), fun _ => h⟩
    · exact ⟨(0, fun _ => 0), fun h => absurd h hc⟩
  obtain ⟨cI, i1, i2⟩ := ka_of .int (hts _ wk_ai) (fun _ h => h) rfl
  obtain ⟨cC, c1, c2⟩ := ka_of .char (hts _ wk_ac) (fun _ h => h) rfl
  obtain ⟨comp, cG, kG, g1, -, g3, g4, g5⟩ := Cond.arrayOver_spec (hts _ wk_ao)
  refine ⟨((fun c => (Classical.choose (hk c)).1, fun c => (Classical.choose (hk c)).2), cI, cC, cG, hz), ⟨⟨fun c q hq => ?_, fun k q hq => ?_⟩, fun a i b n d h hm => va_Nw.of rfl (hts _ hm), fun a i x h hm => va_Nw.of rfl (hts _ hm), va_AO.of (hts _ wk_ao)⟩, rfl⟩
  · have hc : c < 8 := (List.getElem?_eq_some_iff.mp hq).1
    have e := (vw_ok c hc).symm.trans hq
    cases e
    exact Classical.choose_spec (hk c) hc
  · match k, hq with
    | 0, hq => cases hq; exact ⟨i1, i2⟩
    | 1, hq => cases hq; exact ⟨c1, c2⟩
    | 2, hq => cases hq; exact ⟨fun n z => ⟨fun k q => (by cases q), kG, g3, comp, g4⟩, kG, comp, g3, g4, g1, g5⟩
    | k + 3, hq => cases hq
set_option maxHeartbeats 2000000 in
/-- THE LAW, from its entry, out of a run of the machine in words -/
theorem start_of (hpure : ∀ (L : Nat) (xs : Nat → Int32), L ≤ 2048 → wp 0 0 [some (.ref 1003), none, none, none] [] (s0 L) (m0 xs) qEnd) {p : Program} {e : Env} {s : State} {m : MethodId} {below : List Frame} {meth : Method} {c : Code} (l : Launch) {b L : Nat} {xs : Nat → Int32} (hL : L ≤ 2048) (C0 : lw_At p s m meth c b L xs) : W p l e room_1 s m #[Value.ref b] below meth c s.heap [] 0 0 (lw_Z below #[Value.ref b] s) (entryFrame m ([Value.ref b] : List Value).toArray 4) := by
  obtain ⟨hx, hb, hr, hml, hown, hts, hX, hbl, hlocks, hgv⟩ := id C0
  obtain ⟨f, r, σ1, M1, hex, rfl, hn1, hs1⟩ := hpure L xs hL
  obtain ⟨G, hKU, hGz⟩ := ku_law hts s.heap.size
  have hAA : ∀ a : Nat, a < s.heap.size → ¬ AA G a := fun a h1 h2 => by
    unfold AA at h2
    omega
  have hini := hts _ wk_ia
  obtain ⟨a0, z0, r0⟩ := cst_row (n := "AT_FIRST") (f := at0) hgv (by decide +kernel) (by decide +kernel) (lt7 (by decide +kernel) (by decide +kernel) (by decide +kernel) (by decide +kernel) (by decide +kernel) (by decide +kernel) (by decide +kernel)) hAA (hts _ wk_l0) hini
  obtain ⟨a1, z1, r1⟩ := cst_row (n := "LEAST") (f := le0) hgv (by decide +kernel) (by decide +kernel) (lt7 (by decide +kernel) (by decide +kernel) (by decide +kernel) (by decide +kernel) (by decide +kernel) (by decide +kernel) (by decide +kernel)) hAA (hts _ wk_l1) hini
  obtain ⟨a2, z2, r2⟩ := cst_row (n := "MOST") (f := mo0) hgv (by decide +kernel) (by decide +kernel) (lt7 (by decide +kernel) (by decide +kernel) (by decide +kernel) (by decide +kernel) (by decide +kernel) (by decide +kernel) (by decide +kernel)) hAA (hts _ wk_l2) hini
  have r3 : va_T .int b L (fun j => .int (xs j)) (AA G) s s.heap := by
    obtain ⟨scr, h1, h2, h3, h4, h5⟩ := hX
    refine ⟨scr, h1, h2, h3, by rw [h4]; exact Nat.le_refl _, by rw [h4]; try rfl, h5, hAA b hbl⟩
  obtain ⟨ad, e0, e1, e2, e3⟩ : ∃ ad : Nat → Nat, ad 1000 = a0 ∧ ad 1001 = a1 ∧ ad 1002 = a2 ∧ ad 1003 = b := ⟨fun i => if i = 1000 then a0 else if i = 1001 then a1 else if i = 1002 then a2 else b, rfl, rfl, rfl, rfl⟩
  have hZ : ZU G ad (s0 L) (m0 xs) s s.heap := by
    refine ⟨fun i hi => ?_, ⟨rfl, by rw [e0]; exact z0⟩, ⟨rfl, by rw [e1]; exact z1⟩, ⟨rfl, by rw [e2]; exact z2⟩⟩
    have hi4 : i = 1000 ∨ i = 1001 ∨ i = 1002 ∨ i = 1003 := by
      have h2 : t0T i = 9 := hi
      unfold t0T at h2
      split at h2
      · omega
      · split at h2
        · omega
        · split at h2
          · omega
          · split at h2
            · omega
            · cases h2
    rcases hi4 with rfl | rfl | rfl | rfl
    · rw [e0]; exact r0
    · rw [e1]; exact r1
    · rw [e2]; exact r2
    · rw [e3]; exact r3
  have hl := lv_entry ([.ref b]) (n := 4) (Nat.le_of_ble_eq_true rfl)
  rw [lg_entry_eq]
  generalize (lg_sl ([.ref b]) ++ List.replicate (4 - (lg_sl ([.ref b])).length) Slot.unset).toArray = lsr at hl ⊢
  have hd0 := Drawn.sameBut.refl s.drawn lw_cs
  have hcw : cw G ad (s0 L) (m0 xs) = [] := rfl
  have hHP0 : HP G ad (s0 L) (m0 xs) s.heap := by
    unfold HP
    rw [hcw]
    exact ⟨fun k q h => by simp at h, fun i j q1 q2 h => by simp at h, fun k q h => by simp at h⟩
  have hwf0 : wfS (s0 L) := ⟨fun i k j h => (by cases h), fun i h => absurd h (Nat.not_lt_zero _)⟩
  have hCF : CF G p room_1 (s.setDrawn s.drawn) m #[Value.ref b] meth c 0 := ⟨hx, hb, hml, hown, fun w hw => dr_words hts _ w (List.mem_filter.mp hw).1, hKU, fun h => absurd h (by decide +kernel), by show mK 0 ≤ 13; decide, by show 36 * mK 0 ≤ 490; decide, by rw [hGz]; exact Nat.le_refl _⟩
  refine W.base ?_
  refine fs_all f 0 0 [some (.ref 1003), none, none, none] [] (s0 L) (m0 xs) _ σ1 M1 hex G p l e room_1 (s.setDrawn s.drawn) m #[Value.ref b] below meth c _ hCF ad s.heap [] 0 0 lsr ⟨hHP0, hZ, va_S.rf, hwf0, okS_n, ?_, ?_, rfl⟩ ?_ ?_ ?_
  · intro k v hk
    match k, hk with
    | 0, hk => cases hk; exact okV_r (Or.inr rfl)
    | 1, hk => cases hk
    | 2, hk => cases hk
    | 3, hk => cases hk
    | k + 4, hk => cases hk
  · refine lv_mono hl fun q hq => ?_
    obtain ⟨v, h1, h2⟩ := mem_asc.mp hq
    obtain ⟨k, w⟩ := q
    match k, h1, h2 with
    | 0, h1, h2 =>
      cases h1
      refine List.mem_cons.mpr (Or.inl ?_)
      have h3 : w = amap ad (.ref 1003) := h2
      rw [h3]
      simp only [amap, e3]
    | 1, h1, _ => cases h1
    | 2, h1, _ => cases h1
    | 3, h1, _ => cases h1
    | k + 4, h1, _ => cases h1
  · show 0 + sN σ1 ≤ 600000 + 0
    omega
  · show 0 + sS σ1 ≤ 7302250 + 0
    omega
  · intro pc2 npc a b2 d w ins cv sw lsr2 H2 locs2 ad2 he hrt hHP hag hS2 hwf2
    have hg := fe_good he
    have hd := dec_of_good hg
    rcases hrt with ⟨v, hv, rfl, hok⟩ | ⟨h, -⟩
    · cases hv
      simp only [good, Bool.and_eq_true, decide_eq_true_eq] at hg
      obtain ⟨-, rfl, hcv⟩ := hg
      rw [Nat.add_sub_cancel_left] at hd
      refine va_forget (fun q hq => ?_) ?_
      · have := hS2.2.2 q hq
        unfold AA at this
        rw [hGz] at this
        exact this
      · exact lw_ret hd0 hx hb hr hlocks hd
    · cases h
end
