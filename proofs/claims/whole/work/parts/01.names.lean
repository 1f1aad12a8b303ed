-- ===== PART A: goes FIRST, ahead of the names: the tables' words, and 'selects' of the private methods out of them =====
/-- a private method of a class that the tables say can be made, by its rows of tables_1 -/
def lw_okq (q : MethodName × Nat) : Prop := (q.1.cls ≠ "java/lang/invoke/MethodHandle" ∧ q.1.cls ≠ "java/lang/invoke/VarHandle") ∧ Cond.instantiable q.1.cls q.2 ∈ tables_1 ∧ Cond.privateMethod q.1 ∈ tables_1 ∧ Cond.instanceMethod q.1 ∈ tables_1
theorem lw_p0 : lw_okq (⟨"HiveBylaws", "recorded", "(I)I"⟩, 9) := ⟨⟨by decide +kernel, by decide +kernel⟩, List.mem_of_getElem? (i := 12) (by decide +kernel), List.mem_of_getElem? (i := 326) (by decide +kernel), List.mem_of_getElem? (i := 327) (by decide +kernel)⟩
theorem lw_p1 : lw_okq (⟨"HiveBylaws$State", "endSeason", "()I"⟩, 10) := ⟨⟨by decide +kernel, by decide +kernel⟩, List.mem_of_getElem? (i := 20) (by decide +kernel), List.mem_of_getElem? (i := 390) (by decide +kernel), List.mem_of_getElem? (i := 391) (by decide +kernel)⟩
theorem lw_p2 : lw_okq (⟨"HiveBylaws$Petitions", "rankOf", "(I)I"⟩, 7) := ⟨⟨by decide +kernel, by decide +kernel⟩, List.mem_of_getElem? (i := 86) (by decide +kernel), List.mem_of_getElem? (i := 402) (by decide +kernel), List.mem_of_getElem? (i := 403) (by decide +kernel)⟩
theorem lw_p3 : lw_okq (⟨"HiveBylaws$State", "grant", "(I)V"⟩, 10) := ⟨⟨by decide +kernel, by decide +kernel⟩, List.mem_of_getElem? (i := 20) (by decide +kernel), List.mem_of_getElem? (i := 426) (by decide +kernel), List.mem_of_getElem? (i := 427) (by decide +kernel)⟩
theorem lw_p4 : lw_okq (⟨"HiveBylaws$PetitionText", "readThing", "(I)Z"⟩, 9) := ⟨⟨by decide +kernel, by decide +kernel⟩, List.mem_of_getElem? (i := 215) (by decide +kernel), List.mem_of_getElem? (i := 466) (by decide +kernel), List.mem_of_getElem? (i := 467) (by decide +kernel)⟩
theorem lw_p5 : lw_okq (⟨"HiveBylaws$PetitionText", "skip", "(C)Z"⟩, 9) := ⟨⟨by decide +kernel, by decide +kernel⟩, List.mem_of_getElem? (i := 215) (by decide +kernel), List.mem_of_getElem? (i := 470) (by decide +kernel), List.mem_of_getElem? (i := 471) (by decide +kernel)⟩
theorem lw_p6 : lw_okq (⟨"HiveBylaws$PetitionText", "readPetition", "(I)Z"⟩, 9) := ⟨⟨by decide +kernel, by decide +kernel⟩, List.mem_of_getElem? (i := 215) (by decide +kernel), List.mem_of_getElem? (i := 474) (by decide +kernel), List.mem_of_getElem? (i := 475) (by decide +kernel)⟩
theorem lw_p7 : lw_okq (⟨"HiveBylaws$PetitionText", "readNumber", "(II)I"⟩, 9) := ⟨⟨by decide +kernel, by decide +kernel⟩, List.mem_of_getElem? (i := 215) (by decide +kernel), List.mem_of_getElem? (i := 478) (by decide +kernel), List.mem_of_getElem? (i := 479) (by decide +kernel)⟩
theorem lw_p8 : lw_okq (⟨"HiveBylaws$PetitionText", "digitHere", "()I"⟩, 9) := ⟨⟨by decide +kernel, by decide +kernel⟩, List.mem_of_getElem? (i := 215) (by decide +kernel), List.mem_of_getElem? (i := 482) (by decide +kernel), List.mem_of_getElem? (i := 483) (by decide +kernel)⟩
theorem lw_p9 : lw_okq (⟨"HiveBylaws$PetitionText", "readKind", "()I"⟩, 9) := ⟨⟨by decide +kernel, by decide +kernel⟩, List.mem_of_getElem? (i := 215) (by decide +kernel), List.mem_of_getElem? (i := 486) (by decide +kernel), List.mem_of_getElem? (i := 487) (by decide +kernel)⟩
theorem lw_p10 : lw_okq (⟨"HiveBylaws$PetitionText", "readSeconding", "(I)Z"⟩, 9) := ⟨⟨by decide +kernel, by decide +kernel⟩, List.mem_of_getElem? (i := 215) (by decide +kernel), List.mem_of_getElem? (i := 490) (by decide +kernel), List.mem_of_getElem? (i := 491) (by decide +kernel)⟩
theorem lw_p11 : lw_okq (⟨"HiveBylaws", "doThing", "(I)I"⟩, 9) := ⟨⟨by decide +kernel, by decide +kernel⟩, List.mem_of_getElem? (i := 12) (by decide +kernel), List.mem_of_getElem? (i := 494) (by decide +kernel), List.mem_of_getElem? (i := 495) (by decide +kernel)⟩
theorem lw_p12 : lw_okq (⟨"HiveBylawsModel", "copies", "(II)V"⟩, 15) := ⟨⟨by decide +kernel, by decide +kernel⟩, List.mem_of_getElem? (i := 620) (by decide +kernel), List.mem_of_getElem? (i := 676) (by decide +kernel), List.mem_of_getElem? (i := 677) (by decide +kernel)⟩
theorem lw_p13 : lw_okq (⟨"HiveBylawsModel", "comes", "(II)I"⟩, 15) := ⟨⟨by decide +kernel, by decide +kernel⟩, List.mem_of_getElem? (i := 620) (by decide +kernel), List.mem_of_getElem? (i := 680) (by decide +kernel), List.mem_of_getElem? (i := 681) (by decide +kernel)⟩
theorem lw_p14 : lw_okq (⟨"HiveBylawsModel", "done", "(I)I"⟩, 15) := ⟨⟨by decide +kernel, by decide +kernel⟩, List.mem_of_getElem? (i := 620) (by decide +kernel), List.mem_of_getElem? (i := 693) (by decide +kernel), List.mem_of_getElem? (i := 694) (by decide +kernel)⟩
theorem lw_p15 : lw_okq (⟨"HiveBylawsModel", "records", "(I)V"⟩, 15) := ⟨⟨by decide +kernel, by decide +kernel⟩, List.mem_of_getElem? (i := 620) (by decide +kernel), List.mem_of_getElem? (i := 697) (by decide +kernel), List.mem_of_getElem? (i := 698) (by decide +kernel)⟩
def lw_privs_1 : List (MethodName × Nat) := [(⟨"HiveBylaws", "recorded", "(I)I"⟩, 9), (⟨"HiveBylaws$State", "endSeason", "()I"⟩, 10), (⟨"HiveBylaws$Petitions", "rankOf", "(I)I"⟩, 7), (⟨"HiveBylaws$State", "grant", "(I)V"⟩, 10), (⟨"HiveBylaws$PetitionText", "readThing", "(I)Z"⟩, 9), (⟨"HiveBylaws$PetitionText", "skip", "(C)Z"⟩, 9), (⟨"HiveBylaws$PetitionText", "readPetition", "(I)Z"⟩, 9), (⟨"HiveBylaws$PetitionText", "readNumber", "(II)I"⟩, 9), (⟨"HiveBylaws$PetitionText", "digitHere", "()I"⟩, 9), (⟨"HiveBylaws$PetitionText", "readKind", "()I"⟩, 9), (⟨"HiveBylaws$PetitionText", "readSeconding", "(I)Z"⟩, 9), (⟨"HiveBylaws", "doThing", "(I)I"⟩, 9), (⟨"HiveBylawsModel", "copies", "(II)V"⟩, 15), (⟨"HiveBylawsModel", "comes", "(II)I"⟩, 15), (⟨"HiveBylawsModel", "done", "(I)I"⟩, 15), (⟨"HiveBylawsModel", "records", "(I)V"⟩, 15)]
theorem lw_r1 : ∀ q ∈ lw_privs_1, lw_okq q := List.forall_mem_cons.mpr ⟨lw_p0, List.forall_mem_cons.mpr ⟨lw_p1, List.forall_mem_cons.mpr ⟨lw_p2, List.forall_mem_cons.mpr ⟨lw_p3, List.forall_mem_cons.mpr ⟨lw_p4, List.forall_mem_cons.mpr ⟨lw_p5, List.forall_mem_cons.mpr ⟨lw_p6, List.forall_mem_cons.mpr ⟨lw_p7, List.forall_mem_cons.mpr ⟨lw_p8, List.forall_mem_cons.mpr ⟨lw_p9, List.forall_mem_cons.mpr ⟨lw_p10, List.forall_mem_cons.mpr ⟨lw_p11, List.forall_mem_cons.mpr ⟨lw_p12, List.forall_mem_cons.mpr ⟨lw_p13, List.forall_mem_cons.mpr ⟨lw_p14, List.forall_mem_cons.mpr ⟨lw_p15, fun _ h => absurd h List.not_mem_nil⟩⟩⟩⟩⟩⟩⟩⟩⟩⟩⟩⟩⟩⟩⟩⟩
theorem lw_p16 : lw_okq (⟨"HiveBylawsModel", "moves", "(II)I"⟩, 15) := ⟨⟨by decide +kernel, by decide +kernel⟩, List.mem_of_getElem? (i := 620) (by decide +kernel), List.mem_of_getElem? (i := 705) (by decide +kernel), List.mem_of_getElem? (i := 706) (by decide +kernel)⟩
theorem lw_p17 : lw_okq (⟨"HiveBylawsModel", "isDrone", "(I)Z"⟩, 15) := ⟨⟨by decide +kernel, by decide +kernel⟩, List.mem_of_getElem? (i := 620) (by decide +kernel), List.mem_of_getElem? (i := 709) (by decide +kernel), List.mem_of_getElem? (i := 710) (by decide +kernel)⟩
theorem lw_p18 : lw_okq (⟨"HiveBylawsModel", "petitions", "(IIII)I"⟩, 15) := ⟨⟨by decide +kernel, by decide +kernel⟩, List.mem_of_getElem? (i := 620) (by decide +kernel), List.mem_of_getElem? (i := 717) (by decide +kernel), List.mem_of_getElem? (i := 718) (by decide +kernel)⟩
theorem lw_p19 : lw_okq (⟨"HiveBylawsModel", "seconds", "(II)I"⟩, 15) := ⟨⟨by decide +kernel, by decide +kernel⟩, List.mem_of_getElem? (i := 620) (by decide +kernel), List.mem_of_getElem? (i := 731) (by decide +kernel), List.mem_of_getElem? (i := 732) (by decide +kernel)⟩
theorem lw_p20 : lw_okq (⟨"HiveBylawsModel", "isPetition", "(I)Z"⟩, 15) := ⟨⟨by decide +kernel, by decide +kernel⟩, List.mem_of_getElem? (i := 620) (by decide +kernel), List.mem_of_getElem? (i := 735) (by decide +kernel), List.mem_of_getElem? (i := 736) (by decide +kernel)⟩
theorem lw_p21 : lw_okq (⟨"HiveBylawsModel", "support", "(II)I"⟩, 15) := ⟨⟨by decide +kernel, by decide +kernel⟩, List.mem_of_getElem? (i := 620) (by decide +kernel), List.mem_of_getElem? (i := 739) (by decide +kernel), List.mem_of_getElem? (i := 740) (by decide +kernel)⟩
theorem lw_p22 : lw_okq (⟨"HiveBylawsModel", "ends", "(I)I"⟩, 15) := ⟨⟨by decide +kernel, by decide +kernel⟩, List.mem_of_getElem? (i := 620) (by decide +kernel), List.mem_of_getElem? (i := 747) (by decide +kernel), List.mem_of_getElem? (i := 748) (by decide +kernel)⟩
theorem lw_p23 : lw_okq (⟨"HiveBylawsModel", "day", "(I)I"⟩, 15) := ⟨⟨by decide +kernel, by decide +kernel⟩, List.mem_of_getElem? (i := 620) (by decide +kernel), List.mem_of_getElem? (i := 752) (by decide +kernel), List.mem_of_getElem? (i := 753) (by decide +kernel)⟩
theorem lw_p24 : lw_okq (⟨"HiveBylawsModel", "hears", "(I)I"⟩, 15) := ⟨⟨by decide +kernel, by decide +kernel⟩, List.mem_of_getElem? (i := 620) (by decide +kernel), List.mem_of_getElem? (i := 756) (by decide +kernel), List.mem_of_getElem? (i := 757) (by decide +kernel)⟩
theorem lw_p25 : lw_okq (⟨"HiveBylawsModel", "sorts", "(I)V"⟩, 15) := ⟨⟨by decide +kernel, by decide +kernel⟩, List.mem_of_getElem? (i := 620) (by decide +kernel), List.mem_of_getElem? (i := 760) (by decide +kernel), List.mem_of_getElem? (i := 761) (by decide +kernel)⟩
theorem lw_p26 : lw_okq (⟨"HiveBylawsModel", "refusal", "(III)I"⟩, 15) := ⟨⟨by decide +kernel, by decide +kernel⟩, List.mem_of_getElem? (i := 620) (by decide +kernel), List.mem_of_getElem? (i := 764) (by decide +kernel), List.mem_of_getElem? (i := 765) (by decide +kernel)⟩
theorem lw_p27 : lw_okq (⟨"HiveBylawsModel", "refusedWith", "(IIII)I"⟩, 15) := ⟨⟨by decide +kernel, by decide +kernel⟩, List.mem_of_getElem? (i := 620) (by decide +kernel), List.mem_of_getElem? (i := 771) (by decide +kernel), List.mem_of_getElem? (i := 772) (by decide +kernel)⟩
theorem lw_p28 : lw_okq (⟨"HiveBylawsModel", "weightAt", "(II)I"⟩, 15) := ⟨⟨by decide +kernel, by decide +kernel⟩, List.mem_of_getElem? (i := 620) (by decide +kernel), List.mem_of_getElem? (i := 775) (by decide +kernel), List.mem_of_getElem? (i := 776) (by decide +kernel)⟩
theorem lw_p29 : lw_okq (⟨"HiveBylawsModel", "passes", "(III)V"⟩, 15) := ⟨⟨by decide +kernel, by decide +kernel⟩, List.mem_of_getElem? (i := 620) (by decide +kernel), List.mem_of_getElem? (i := 779) (by decide +kernel), List.mem_of_getElem? (i := 780) (by decide +kernel)⟩
theorem lw_p30 : lw_okq (⟨"HiveBylawsModel", "sets", "(II)I"⟩, 15) := ⟨⟨by decide +kernel, by decide +kernel⟩, List.mem_of_getElem? (i := 620) (by decide +kernel), List.mem_of_getElem? (i := 790) (by decide +kernel), List.mem_of_getElem? (i := 791) (by decide +kernel)⟩
theorem lw_p31 : lw_okq (⟨"HiveBylawsModel", "fault", "()I"⟩, 15) := ⟨⟨by decide +kernel, by decide +kernel⟩, List.mem_of_getElem? (i := 620) (by decide +kernel), List.mem_of_getElem? (i := 806) (by decide +kernel), List.mem_of_getElem? (i := 807) (by decide +kernel)⟩
def lw_privs_2 : List (MethodName × Nat) := [(⟨"HiveBylawsModel", "moves", "(II)I"⟩, 15), (⟨"HiveBylawsModel", "isDrone", "(I)Z"⟩, 15), (⟨"HiveBylawsModel", "petitions", "(IIII)I"⟩, 15), (⟨"HiveBylawsModel", "seconds", "(II)I"⟩, 15), (⟨"HiveBylawsModel", "isPetition", "(I)Z"⟩, 15), (⟨"HiveBylawsModel", "support", "(II)I"⟩, 15), (⟨"HiveBylawsModel", "ends", "(I)I"⟩, 15), (⟨"HiveBylawsModel", "day", "(I)I"⟩, 15), (⟨"HiveBylawsModel", "hears", "(I)I"⟩, 15), (⟨"HiveBylawsModel", "sorts", "(I)V"⟩, 15), (⟨"HiveBylawsModel", "refusal", "(III)I"⟩, 15), (⟨"HiveBylawsModel", "refusedWith", "(IIII)I"⟩, 15), (⟨"HiveBylawsModel", "weightAt", "(II)I"⟩, 15), (⟨"HiveBylawsModel", "passes", "(III)V"⟩, 15), (⟨"HiveBylawsModel", "sets", "(II)I"⟩, 15), (⟨"HiveBylawsModel", "fault", "()I"⟩, 15)]
theorem lw_r2 : ∀ q ∈ lw_privs_2, lw_okq q := List.forall_mem_cons.mpr ⟨lw_p16, List.forall_mem_cons.mpr ⟨lw_p17, List.forall_mem_cons.mpr ⟨lw_p18, List.forall_mem_cons.mpr ⟨lw_p19, List.forall_mem_cons.mpr ⟨lw_p20, List.forall_mem_cons.mpr ⟨lw_p21, List.forall_mem_cons.mpr ⟨lw_p22, List.forall_mem_cons.mpr ⟨lw_p23, List.forall_mem_cons.mpr ⟨lw_p24, List.forall_mem_cons.mpr ⟨lw_p25, List.forall_mem_cons.mpr ⟨lw_p26, List.forall_mem_cons.mpr ⟨lw_p27, List.forall_mem_cons.mpr ⟨lw_p28, List.forall_mem_cons.mpr ⟨lw_p29, List.forall_mem_cons.mpr ⟨lw_p30, List.forall_mem_cons.mpr ⟨lw_p31, fun _ h => absurd h List.not_mem_nil⟩⟩⟩⟩⟩⟩⟩⟩⟩⟩⟩⟩⟩⟩⟩⟩
theorem lw_p32 : lw_okq (⟨"HiveBylawsModel", "readsThing", "()Z"⟩, 15) := ⟨⟨by decide +kernel, by decide +kernel⟩, List.mem_of_getElem? (i := 620) (by decide +kernel), List.mem_of_getElem? (i := 810) (by decide +kernel), List.mem_of_getElem? (i := 811) (by decide +kernel)⟩
theorem lw_p33 : lw_okq (⟨"HiveBylawsModel", "readsPetition", "()Z"⟩, 15) := ⟨⟨by decide +kernel, by decide +kernel⟩, List.mem_of_getElem? (i := 620) (by decide +kernel), List.mem_of_getElem? (i := 814) (by decide +kernel), List.mem_of_getElem? (i := 815) (by decide +kernel)⟩
theorem lw_p34 : lw_okq (⟨"HiveBylawsModel", "number", "(II)I"⟩, 15) := ⟨⟨by decide +kernel, by decide +kernel⟩, List.mem_of_getElem? (i := 620) (by decide +kernel), List.mem_of_getElem? (i := 818) (by decide +kernel), List.mem_of_getElem? (i := 819) (by decide +kernel)⟩
theorem lw_p35 : lw_okq (⟨"HiveBylawsModel", "isHere", "(II)Z"⟩, 15) := ⟨⟨by decide +kernel, by decide +kernel⟩, List.mem_of_getElem? (i := 620) (by decide +kernel), List.mem_of_getElem? (i := 822) (by decide +kernel), List.mem_of_getElem? (i := 823) (by decide +kernel)⟩
theorem lw_p36 : lw_okq (⟨"HiveBylawsModel", "takes", "(I)Z"⟩, 15) := ⟨⟨by decide +kernel, by decide +kernel⟩, List.mem_of_getElem? (i := 620) (by decide +kernel), List.mem_of_getElem? (i := 826) (by decide +kernel), List.mem_of_getElem? (i := 827) (by decide +kernel)⟩
theorem lw_p37 : lw_okq (⟨"HiveBylawsModel", "does", "()I"⟩, 15) := ⟨⟨by decide +kernel, by decide +kernel⟩, List.mem_of_getElem? (i := 620) (by decide +kernel), List.mem_of_getElem? (i := 830) (by decide +kernel), List.mem_of_getElem? (i := 831) (by decide +kernel)⟩
theorem lw_p38 : lw_okq (⟨"HiveBylawsModel", "bylaws", "(Z)I"⟩, 15) := ⟨⟨by decide +kernel, by decide +kernel⟩, List.mem_of_getElem? (i := 620) (by decide +kernel), List.mem_of_getElem? (i := 846) (by decide +kernel), List.mem_of_getElem? (i := 847) (by decide +kernel)⟩
theorem lw_p39 : lw_okq (⟨"HiveBylawsModel", "secondedBy", "(I)I"⟩, 15) := ⟨⟨by decide +kernel, by decide +kernel⟩, List.mem_of_getElem? (i := 620) (by decide +kernel), List.mem_of_getElem? (i := 858) (by decide +kernel), List.mem_of_getElem? (i := 859) (by decide +kernel)⟩
theorem lw_p40 : lw_okq (⟨"HiveBylawsModel", "ranked", "(I)I"⟩, 15) := ⟨⟨by decide +kernel, by decide +kernel⟩, List.mem_of_getElem? (i := 620) (by decide +kernel), List.mem_of_getElem? (i := 866) (by decide +kernel), List.mem_of_getElem? (i := 867) (by decide +kernel)⟩
theorem lw_p41 : lw_okq (⟨"HiveBylawsModel", "ruling", "(II)I"⟩, 15) := ⟨⟨by decide +kernel, by decide +kernel⟩, List.mem_of_getElem? (i := 620) (by decide +kernel), List.mem_of_getElem? (i := 882) (by decide +kernel), List.mem_of_getElem? (i := 883) (by decide +kernel)⟩
theorem lw_p42 : lw_okq (⟨"HiveBylawsModel", "isAllowed", "(II)Z"⟩, 15) := ⟨⟨by decide +kernel, by decide +kernel⟩, List.mem_of_getElem? (i := 620) (by decide +kernel), List.mem_of_getElem? (i := 886) (by decide +kernel), List.mem_of_getElem? (i := 887) (by decide +kernel)⟩
theorem lw_p43 : lw_okq (⟨"HiveBylawsModel", "tries", "()V"⟩, 15) := ⟨⟨by decide +kernel, by decide +kernel⟩, List.mem_of_getElem? (i := 620) (by decide +kernel), List.mem_of_getElem? (i := 894) (by decide +kernel), List.mem_of_getElem? (i := 895) (by decide +kernel)⟩
theorem lw_p44 : lw_okq (⟨"HiveBylawsModel", "oldestAt", "(I)I"⟩, 15) := ⟨⟨by decide +kernel, by decide +kernel⟩, List.mem_of_getElem? (i := 620) (by decide +kernel), List.mem_of_getElem? (i := 914) (by decide +kernel), List.mem_of_getElem? (i := 915) (by decide +kernel)⟩
theorem lw_p45 : lw_okq (⟨"HiveBylawsModel", "rankOf", "(I)I"⟩, 15) := ⟨⟨by decide +kernel, by decide +kernel⟩, List.mem_of_getElem? (i := 620) (by decide +kernel), List.mem_of_getElem? (i := 918) (by decide +kernel), List.mem_of_getElem? (i := 919) (by decide +kernel)⟩
theorem lw_p46 : lw_okq (⟨"HiveBylawsModel", "forbiddenAtCombs", "()I"⟩, 15) := ⟨⟨by decide +kernel, by decide +kernel⟩, List.mem_of_getElem? (i := 620) (by decide +kernel), List.mem_of_getElem? (i := 926) (by decide +kernel), List.mem_of_getElem? (i := 927) (by decide +kernel)⟩
def lw_privs_3 : List (MethodName × Nat) := [(⟨"HiveBylawsModel", "readsThing", "()Z"⟩, 15), (⟨"HiveBylawsModel", "readsPetition", "()Z"⟩, 15), (⟨"HiveBylawsModel", "number", "(II)I"⟩, 15), (⟨"HiveBylawsModel", "isHere", "(II)Z"⟩, 15), (⟨"HiveBylawsModel", "takes", "(I)Z"⟩, 15), (⟨"HiveBylawsModel", "does", "()I"⟩, 15), (⟨"HiveBylawsModel", "bylaws", "(Z)I"⟩, 15), (⟨"HiveBylawsModel", "secondedBy", "(I)I"⟩, 15), (⟨"HiveBylawsModel", "ranked", "(I)I"⟩, 15), (⟨"HiveBylawsModel", "ruling", "(II)I"⟩, 15), (⟨"HiveBylawsModel", "isAllowed", "(II)Z"⟩, 15), (⟨"HiveBylawsModel", "tries", "()V"⟩, 15), (⟨"HiveBylawsModel", "oldestAt", "(I)I"⟩, 15), (⟨"HiveBylawsModel", "rankOf", "(I)I"⟩, 15), (⟨"HiveBylawsModel", "forbiddenAtCombs", "()I"⟩, 15)]
theorem lw_r3 : ∀ q ∈ lw_privs_3, lw_okq q := List.forall_mem_cons.mpr ⟨lw_p32, List.forall_mem_cons.mpr ⟨lw_p33, List.forall_mem_cons.mpr ⟨lw_p34, List.forall_mem_cons.mpr ⟨lw_p35, List.forall_mem_cons.mpr ⟨lw_p36, List.forall_mem_cons.mpr ⟨lw_p37, List.forall_mem_cons.mpr ⟨lw_p38, List.forall_mem_cons.mpr ⟨lw_p39, List.forall_mem_cons.mpr ⟨lw_p40, List.forall_mem_cons.mpr ⟨lw_p41, List.forall_mem_cons.mpr ⟨lw_p42, List.forall_mem_cons.mpr ⟨lw_p43, List.forall_mem_cons.mpr ⟨lw_p44, List.forall_mem_cons.mpr ⟨lw_p45, List.forall_mem_cons.mpr ⟨lw_p46, fun _ h => absurd h List.not_mem_nil⟩⟩⟩⟩⟩⟩⟩⟩⟩⟩⟩⟩⟩⟩⟩
def lw_privs : List (MethodName × Nat) := lw_privs_1 ++ (lw_privs_2 ++ (lw_privs_3))
def lw_tbl : List Cond := k2_sels lw_privs ++ tables_1
theorem lw_privs_ok : ∀ q ∈ lw_privs, lw_okq q := by
  show ∀ q ∈ lw_privs_1 ++ (lw_privs_2 ++ (lw_privs_3)), lw_okq q
  exact List.forall_mem_append.mpr ⟨lw_r1, List.forall_mem_append.mpr ⟨lw_r2, lw_r3⟩⟩
-- ===== end of PART A; then your names; then what follows =====
def RX0 : String := "HiveBylaws$History"
def TX0 : u_T := fun k => match k with
  | 0 => ("HiveBylaws$History", "ring", "[LHiveBylaws$State;", true)
  | 1 => ("HiveBylaws$History", "first", "I", false)
  | _ => ("HiveBylaws$History", "size", "I", false)
def tyX0 : Nat → FieldType := fun k => match k with
  | 0 => .array (.object "HiveBylaws$State")
  | 1 => .int
  | _ => .int
abbrev wsX00 : List Cond := u_ws RX0 TX0 3
theorem nmX0 : ∀ a, a < 3 → ∀ b, b < 3 → a ≠ b → (TX0 a).2.1 ≠ (TX0 b).2.1 := by decide +kernel
theorem tyX0_ok : ∀ k, k < 3 → parseFieldDescriptor (TX0 k).2.2.1 = some (tyX0 k) := by decide +kernel
abbrev cX0_init : ByteArray := prog_2_method_1_code
def yX0_init : MethodName := ⟨RX0, "<init>", "()V"⟩
abbrev cX0_remember : ByteArray := prog_2_method_2_code
def yX0_remember : MethodName := ⟨RX0, "remember", "(LHiveBylaws$State;)V"⟩
abbrev cX0_takeBack : ByteArray := prog_2_method_3_code
def yX0_takeBack : MethodName := ⟨RX0, "takeBack", "(LHiveBylaws$State;)I"⟩
def RX1 : String := "HiveBylaws$Laws"
def TX1 : u_T := fun k => match k with
  | 0 => ("HiveBylaws$Laws", "stance", "[I", true)
  | 1 => ("HiveBylaws$Laws", "strength", "[I", true)
  | _ => ("HiveBylaws$Laws", "season", "[I", true)
def tyX1 : Nat → FieldType := fun k => match k with
  | 0 => .array .int
  | 1 => .array .int
  | _ => .array .int
abbrev wsX10 : List Cond := u_ws RX1 TX1 3
theorem nmX1 : ∀ a, a < 3 → ∀ b, b < 3 → a ≠ b → (TX1 a).2.1 ≠ (TX1 b).2.1 := by decide +kernel
theorem tyX1_ok : ∀ k, k < 3 → parseFieldDescriptor (TX1 k).2.2.1 = some (tyX1 k) := by decide +kernel
abbrev cX1_init : ByteArray := prog_3_method_1_code
def yX1_init : MethodName := ⟨RX1, "<init>", "()V"⟩
abbrev cX1_copyFrom : ByteArray := prog_3_method_2_code
def yX1_copyFrom : MethodName := ⟨RX1, "copyFrom", "(LHiveBylaws$Laws;)V"⟩
abbrev cX1_stanceOf : ByteArray := prog_3_method_3_code
def yX1_stanceOf : MethodName := ⟨RX1, "stanceOf", "(II)I"⟩
abbrev cX1_strengthOf : ByteArray := prog_3_method_4_code
def yX1_strengthOf : MethodName := ⟨RX1, "strengthOf", "(II)I"⟩
abbrev cX1_size : ByteArray := prog_3_method_5_code
def yX1_size : MethodName := ⟨RX1, "size", "()I"⟩
abbrev cX1_rankOf : ByteArray := prog_3_method_6_code
def yX1_rankOf : MethodName := ⟨RX1, "rankOf", "(I)I"⟩
abbrev cX1_spotAt : ByteArray := prog_3_method_7_code
def yX1_spotAt : MethodName := ⟨RX1, "spotAt", "(I)I"⟩
abbrev cX1_rulingPlace : ByteArray := prog_3_method_8_code
def yX1_rulingPlace : MethodName := ⟨RX1, "rulingPlace", "(II)I"⟩
abbrev cX1_isForbidden : ByteArray := prog_3_method_9_code
def yX1_isForbidden : MethodName := ⟨RX1, "isForbidden", "(II)Z"⟩
abbrev cX1_forbidding : ByteArray := prog_3_method_10_code
def yX1_forbidding : MethodName := ⟨RX1, "forbidding", "()I"⟩
abbrev cX1_forbiddenDoings : ByteArray := prog_3_method_11_code
def yX1_forbiddenDoings : MethodName := ⟨RX1, "forbiddenDoings", "()I"⟩
abbrev cX1_oldestSpot : ByteArray := prog_3_method_12_code
def yX1_oldestSpot : MethodName := ⟨RX1, "oldestSpot", "(I)I"⟩
def RX2 : String := "HiveBylaws$PetitionText"
def TX2 : u_T := fun k => match k with
  | 0 => ("HiveBylaws$PetitionText", "characters", "[C", true)
  | 1 => ("HiveBylaws$PetitionText", "length", "I", false)
  | 2 => ("HiveBylaws$PetitionText", "at", "I", false)
  | 3 => ("HiveBylaws$PetitionText", "things", "I", false)
  | 4 => ("HiveBylaws$PetitionText", "act", "[I", true)
  | 5 => ("HiveBylaws$PetitionText", "drone", "[I", true)
  | 6 => ("HiveBylaws$PetitionText", "number", "[I", true)
  | 7 => ("HiveBylaws$PetitionText", "doing", "[I", true)
  | _ => ("HiveBylaws$PetitionText", "kind", "[I", true)
def tyX2 : Nat → FieldType := fun k => match k with
  | 0 => .array .char
  | 1 => .int
  | 2 => .int
  | 3 => .int
  | 4 => .array .int
  | 5 => .array .int
  | 6 => .array .int
  | 7 => .array .int
  | _ => .array .int
abbrev wsX20 : List Cond := u_ws RX2 TX2 9
theorem nmX2 : ∀ a, a < 9 → ∀ b, b < 9 → a ≠ b → (TX2 a).2.1 ≠ (TX2 b).2.1 := by decide +kernel
theorem tyX2_ok : ∀ k, k < 9 → parseFieldDescriptor (TX2 k).2.2.1 = some (tyX2 k) := by decide +kernel
abbrev cX2_init : ByteArray := prog_4_method_1_code
def yX2_init : MethodName := ⟨RX2, "<init>", "()V"⟩
abbrev cX2_append : ByteArray := prog_4_method_2_code
def yX2_append : MethodName := ⟨RX2, "append", "(C)I"⟩
abbrev cX2_empty : ByteArray := prog_4_method_3_code
def yX2_empty : MethodName := ⟨RX2, "empty", "()I"⟩
abbrev cX2_read : ByteArray := prog_4_method_4_code
def yX2_read : MethodName := ⟨RX2, "read", "()I"⟩
abbrev cX2_readThing : ByteArray := prog_4_method_5_code
def yX2_readThing : MethodName := ⟨RX2, "readThing", "(I)Z"⟩
abbrev cX2_readPetition : ByteArray := prog_4_method_6_code
def yX2_readPetition : MethodName := ⟨RX2, "readPetition", "(I)Z"⟩
abbrev cX2_readSeconding : ByteArray := prog_4_method_7_code
def yX2_readSeconding : MethodName := ⟨RX2, "readSeconding", "(I)Z"⟩
abbrev cX2_readKind : ByteArray := prog_4_method_8_code
def yX2_readKind : MethodName := ⟨RX2, "readKind", "()I"⟩
abbrev cX2_readNumber : ByteArray := prog_4_method_9_code
def yX2_readNumber : MethodName := ⟨RX2, "readNumber", "(II)I"⟩
abbrev cX2_digitHere : ByteArray := prog_4_method_10_code
def yX2_digitHere : MethodName := ⟨RX2, "digitHere", "()I"⟩
abbrev cX2_skip : ByteArray := prog_4_method_11_code
def yX2_skip : MethodName := ⟨RX2, "skip", "(C)Z"⟩
def RX3 : String := "HiveBylaws$Petitions"
def TX3 : u_T := fun k => match k with
  | 0 => ("HiveBylaws$Petitions", "size", "I", false)
  | 1 => ("HiveBylaws$Petitions", "drone", "[I", true)
  | 2 => ("HiveBylaws$Petitions", "place", "[I", true)
  | 3 => ("HiveBylaws$Petitions", "doing", "[I", true)
  | 4 => ("HiveBylaws$Petitions", "kind", "[I", true)
  | 5 => ("HiveBylaws$Petitions", "support", "[I", true)
  | _ => ("HiveBylaws$Petitions", "seconders", "[I", true)
def tyX3 : Nat → FieldType := fun k => match k with
  | 0 => .int
  | 1 => .array .int
  | 2 => .array .int
  | 3 => .array .int
  | 4 => .array .int
  | 5 => .array .int
  | _ => .array .int
abbrev wsX30 : List Cond := u_ws RX3 TX3 7
theorem nmX3 : ∀ a, a < 7 → ∀ b, b < 7 → a ≠ b → (TX3 a).2.1 ≠ (TX3 b).2.1 := by decide +kernel
theorem tyX3_ok : ∀ k, k < 7 → parseFieldDescriptor (TX3 k).2.2.1 = some (tyX3 k) := by decide +kernel
abbrev cX3_init : ByteArray := prog_5_method_1_code
def yX3_init : MethodName := ⟨RX3, "<init>", "()V"⟩
abbrev cX3_copyFrom : ByteArray := prog_5_method_2_code
def yX3_copyFrom : MethodName := ⟨RX3, "copyFrom", "(LHiveBylaws$Petitions;)V"⟩
abbrev cX3_has : ByteArray := prog_5_method_3_code
def yX3_has : MethodName := ⟨RX3, "has", "(I)Z"⟩
abbrev cX3_add : ByteArray := prog_5_method_4_code
def yX3_add : MethodName := ⟨RX3, "add", "(IIIII)I"⟩
abbrev cX3_madeBy : ByteArray := prog_5_method_5_code
def yX3_madeBy : MethodName := ⟨RX3, "madeBy", "(I)I"⟩
abbrev cX3_makers : ByteArray := prog_5_method_6_code
def yX3_makers : MethodName := ⟨RX3, "makers", "()I"⟩
abbrev cX3_secondedBy : ByteArray := prog_5_method_7_code
def yX3_secondedBy : MethodName := ⟨RX3, "secondedBy", "(I)I"⟩
abbrev cX3_atRank : ByteArray := prog_5_method_8_code
def yX3_atRank : MethodName := ⟨RX3, "atRank", "(I)I"⟩
abbrev cX3_rankOf : ByteArray := prog_5_method_9_code
def yX3_rankOf : MethodName := ⟨RX3, "rankOf", "(I)I"⟩
def RX4 : String := "HiveBylaws$Refusals"
def TX4 : u_T := fun k => match k with
  | 0 => ("HiveBylaws$Refusals", "size", "I", false)
  | 1 => ("HiveBylaws$Refusals", "place", "[I", true)
  | 2 => ("HiveBylaws$Refusals", "doing", "[I", true)
  | 3 => ("HiveBylaws$Refusals", "kind", "[I", true)
  | _ => ("HiveBylaws$Refusals", "support", "[I", true)
def tyX4 : Nat → FieldType := fun k => match k with
  | 0 => .int
  | 1 => .array .int
  | 2 => .array .int
  | 3 => .array .int
  | _ => .array .int
abbrev wsX40 : List Cond := u_ws RX4 TX4 5
theorem nmX4 : ∀ a, a < 5 → ∀ b, b < 5 → a ≠ b → (TX4 a).2.1 ≠ (TX4 b).2.1 := by decide +kernel
theorem tyX4_ok : ∀ k, k < 5 → parseFieldDescriptor (TX4 k).2.2.1 = some (tyX4 k) := by decide +kernel
abbrev cX4_init : ByteArray := prog_6_method_1_code
def yX4_init : MethodName := ⟨RX4, "<init>", "()V"⟩
abbrev cX4_copyFrom : ByteArray := prog_6_method_2_code
def yX4_copyFrom : MethodName := ⟨RX4, "copyFrom", "(LHiveBylaws$Refusals;)V"⟩
abbrev cX4_add : ByteArray := prog_6_method_3_code
def yX4_add : MethodName := ⟨RX4, "add", "(LHiveBylaws$Petitions;I)V"⟩
abbrev cX4_greatestSupport : ByteArray := prog_6_method_4_code
def yX4_greatestSupport : MethodName := ⟨RX4, "greatestSupport", "(III)I"⟩
def RX5 : String := "HiveBylaws$State"
def TX5 : u_T := fun k => match k with
  | 0 => ("HiveBylaws$State", "swarm", "LHiveBylaws$Swarm;", true)
  | 1 => ("HiveBylaws$State", "laws", "LHiveBylaws$Laws;", true)
  | 2 => ("HiveBylaws$State", "petitions", "LHiveBylaws$Petitions;", true)
  | 3 => ("HiveBylaws$State", "refusals", "LHiveBylaws$Refusals;", true)
  | 4 => ("HiveBylaws$State", "setting", "[I", true)
  | 5 => ("HiveBylaws$State", "day", "I", false)
  | 6 => ("HiveBylaws$State", "season", "I", false)
  | 7 => ("HiveBylaws$State", "daysOfSeason", "I", false)
  | 8 => ("HiveBylaws$State", "repeals", "I", false)
  | _ => ("HiveBylaws$State", "verdict", "[I", true)
def tyX5 : Nat → FieldType := fun k => match k with
  | 0 => .object "HiveBylaws$Swarm"
  | 1 => .object "HiveBylaws$Laws"
  | 2 => .object "HiveBylaws$Petitions"
  | 3 => .object "HiveBylaws$Refusals"
  | 4 => .array .int
  | 5 => .int
  | 6 => .int
  | 7 => .int
  | 8 => .int
  | _ => .array .int
abbrev wsX50 : List Cond := u_ws RX5 TX5 10
theorem nmX5 : ∀ a, a < 10 → ∀ b, b < 10 → a ≠ b → (TX5 a).2.1 ≠ (TX5 b).2.1 := by decide +kernel
theorem tyX5_ok : ∀ k, k < 10 → parseFieldDescriptor (TX5 k).2.2.1 = some (tyX5 k) := by decide +kernel
abbrev cX5_init : ByteArray := prog_7_method_1_code
def yX5_init : MethodName := ⟨RX5, "<init>", "()V"⟩
abbrev cX5_copyFrom : ByteArray := prog_7_method_2_code
def yX5_copyFrom : MethodName := ⟨RX5, "copyFrom", "(LHiveBylaws$State;)V"⟩
abbrev cX5_addDrone : ByteArray := prog_7_method_3_code
def yX5_addDrone : MethodName := ⟨RX5, "addDrone", "(II)I"⟩
abbrev cX5_moveDrone : ByteArray := prog_7_method_4_code
def yX5_moveDrone : MethodName := ⟨RX5, "moveDrone", "(II)I"⟩
abbrev cX5_addPetition : ByteArray := prog_7_method_5_code
def yX5_addPetition : MethodName := ⟨RX5, "addPetition", "(IIII)I"⟩
abbrev cX5_addSeconder : ByteArray := prog_7_method_6_code
def yX5_addSeconder : MethodName := ⟨RX5, "addSeconder", "(II)I"⟩
abbrev cX5_endDays : ByteArray := prog_7_method_7_code
def yX5_endDays : MethodName := ⟨RX5, "endDays", "(I)I"⟩
abbrev cX5_changeSetting : ByteArray := prog_7_method_8_code
def yX5_changeSetting : MethodName := ⟨RX5, "changeSetting", "(II)I"⟩
abbrev cX5_endSeason : ByteArray := prog_7_method_9_code
def yX5_endSeason : MethodName := ⟨RX5, "endSeason", "()I"⟩
abbrev cX5_hearPetitions : ByteArray := prog_7_method_10_code
def yX5_hearPetitions : MethodName := ⟨RX5, "hearPetitions", "()I"⟩
abbrev cX5_reasonToRefuse : ByteArray := prog_7_method_11_code
def yX5_reasonToRefuse : MethodName := ⟨RX5, "reasonToRefuse", "(II)I"⟩
abbrev cX5_grant : ByteArray := prog_7_method_12_code
def yX5_grant : MethodName := ⟨RX5, "grant", "(I)V"⟩
def RX6 : String := "HiveBylaws$Swarm"
def TX6 : u_T := fun k => match k with
  | 0 => ("HiveBylaws$Swarm", "size", "I", false)
  | 1 => ("HiveBylaws$Swarm", "comb", "[I", true)
  | 2 => ("HiveBylaws$Swarm", "weight", "[I", true)
  | 3 => ("HiveBylaws$Swarm", "made", "[I", true)
  | 4 => ("HiveBylaws$Swarm", "passed", "[I", true)
  | _ => ("HiveBylaws$Swarm", "refused", "[I", true)
def tyX6 : Nat → FieldType := fun k => match k with
  | 0 => .int
  | 1 => .array .int
  | 2 => .array .int
  | 3 => .array .int
  | 4 => .array .int
  | _ => .array .int
abbrev wsX60 : List Cond := u_ws RX6 TX6 6
theorem nmX6 : ∀ a, a < 6 → ∀ b, b < 6 → a ≠ b → (TX6 a).2.1 ≠ (TX6 b).2.1 := by decide +kernel
theorem tyX6_ok : ∀ k, k < 6 → parseFieldDescriptor (TX6 k).2.2.1 = some (tyX6 k) := by decide +kernel
abbrev cX6_init : ByteArray := prog_8_method_1_code
def yX6_init : MethodName := ⟨RX6, "<init>", "()V"⟩
abbrev cX6_copyFrom : ByteArray := prog_8_method_2_code
def yX6_copyFrom : MethodName := ⟨RX6, "copyFrom", "(LHiveBylaws$Swarm;)V"⟩
abbrev cX6_knows : ByteArray := prog_8_method_3_code
def yX6_knows : MethodName := ⟨RX6, "knows", "(I)Z"⟩
abbrev cX6_add : ByteArray := prog_8_method_4_code
def yX6_add : MethodName := ⟨RX6, "add", "(II)I"⟩
abbrev cX6_weightAt : ByteArray := prog_8_method_5_code
def yX6_weightAt : MethodName := ⟨RX6, "weightAt", "(I)I"⟩
def RX7 : String := "HiveBylaws"
def TX7 : u_T := fun k => match k with
  | 0 => ("HiveBylaws", "state", "LHiveBylaws$State;", true)
  | 1 => ("HiveBylaws", "before", "LHiveBylaws$State;", true)
  | 2 => ("HiveBylaws", "trial", "LHiveBylaws$State;", true)
  | 3 => ("HiveBylaws", "snapshot", "LHiveBylaws$State;", true)
  | 4 => ("HiveBylaws", "hasSnapshot", "Z", false)
  | 5 => ("HiveBylaws", "history", "LHiveBylaws$History;", true)
  | 6 => ("HiveBylaws", "text", "LHiveBylaws$PetitionText;", true)
  | 7 => ("HiveBylaws", "stopNumber", "I", false)
  | _ => ("HiveBylaws", "stopError", "I", false)
def tyX7 : Nat → FieldType := fun k => match k with
  | 0 => .object "HiveBylaws$State"
  | 1 => .object "HiveBylaws$State"
  | 2 => .object "HiveBylaws$State"
  | 3 => .object "HiveBylaws$State"
  | 4 => .boolean
  | 5 => .object "HiveBylaws$History"
  | 6 => .object "HiveBylaws$PetitionText"
  | 7 => .int
  | _ => .int
abbrev wsX70 : List Cond := u_ws RX7 TX7 9
theorem nmX7 : ∀ a, a < 9 → ∀ b, b < 9 → a ≠ b → (TX7 a).2.1 ≠ (TX7 b).2.1 := by decide +kernel
theorem tyX7_ok : ∀ k, k < 9 → parseFieldDescriptor (TX7 k).2.2.1 = some (tyX7 k) := by decide +kernel
abbrev cX7_init : ByteArray := prog_1_method_1_code
def yX7_init : MethodName := ⟨RX7, "<init>", "()V"⟩
abbrev cX7_come : ByteArray := prog_1_method_2_code
def yX7_come : MethodName := ⟨RX7, "come", "(II)I"⟩
abbrev cX7_move : ByteArray := prog_1_method_3_code
def yX7_move : MethodName := ⟨RX7, "move", "(II)I"⟩
abbrev cX7_petition : ByteArray := prog_1_method_4_code
def yX7_petition : MethodName := ⟨RX7, "petition", "(IIII)I"⟩
abbrev cX7_second : ByteArray := prog_1_method_5_code
def yX7_second : MethodName := ⟨RX7, "second", "(II)I"⟩
abbrev cX7_pass : ByteArray := prog_1_method_6_code
def yX7_pass : MethodName := ⟨RX7, "pass", "(I)I"⟩
abbrev cX7_set : ByteArray := prog_1_method_7_code
def yX7_set : MethodName := ⟨RX7, "set", "(II)I"⟩
abbrev cX7_type : ByteArray := prog_1_method_8_code
def yX7_type : MethodName := ⟨RX7, "type", "(C)I"⟩
abbrev cX7_clearText : ByteArray := prog_1_method_9_code
def yX7_clearText : MethodName := ⟨RX7, "clearText", "()I"⟩
abbrev cX7_perform : ByteArray := prog_1_method_10_code
def yX7_perform : MethodName := ⟨RX7, "perform", "()I"⟩
abbrev cX7_stopped : ByteArray := prog_1_method_11_code
def yX7_stopped : MethodName := ⟨RX7, "stopped", "(I)I"⟩
abbrev cX7_undo : ByteArray := prog_1_method_12_code
def yX7_undo : MethodName := ⟨RX7, "undo", "()I"⟩
abbrev cX7_keep : ByteArray := prog_1_method_13_code
def yX7_keep : MethodName := ⟨RX7, "keep", "()I"⟩
abbrev cX7_restore : ByteArray := prog_1_method_14_code
def yX7_restore : MethodName := ⟨RX7, "restore", "()I"⟩
abbrev cX7_drone : ByteArray := prog_1_method_15_code
def yX7_drone : MethodName := ⟨RX7, "drone", "(II)I"⟩
abbrev cX7_bylaw : ByteArray := prog_1_method_16_code
def yX7_bylaw : MethodName := ⟨RX7, "bylaw", "(II)I"⟩
abbrev cX7_petitionOf : ByteArray := prog_1_method_17_code
def yX7_petitionOf : MethodName := ⟨RX7, "petitionOf", "(II)I"⟩
abbrev cX7_heard : ByteArray := prog_1_method_18_code
def yX7_heard : MethodName := ⟨RX7, "heard", "(I)I"⟩
abbrev cX7_rule : ByteArray := prog_1_method_19_code
def yX7_rule : MethodName := ⟨RX7, "rule", "(III)I"⟩
abbrev cX7_reason : ByteArray := prog_1_method_20_code
def yX7_reason : MethodName := ⟨RX7, "reason", "(I)I"⟩
abbrev cX7_wouldPass : ByteArray := prog_1_method_21_code
def yX7_wouldPass : MethodName := ⟨RX7, "wouldPass", "()I"⟩
abbrev cX7_lacks : ByteArray := prog_1_method_22_code
def yX7_lacks : MethodName := ⟨RX7, "lacks", "(I)I"⟩
abbrev cX7_free : ByteArray := prog_1_method_23_code
def yX7_free : MethodName := ⟨RX7, "free", "()I"⟩
abbrev cX7_oldest : ByteArray := prog_1_method_24_code
def yX7_oldest : MethodName := ⟨RX7, "oldest", "(II)I"⟩
abbrev cX7_count : ByteArray := prog_1_method_25_code
def yX7_count : MethodName := ⟨RX7, "count", "(I)I"⟩
abbrev cX7_isComb : ByteArray := prog_1_method_26_code
def yX7_isComb : MethodName := ⟨RX7, "isComb", "(I)Z"⟩
abbrev cX7_isPlace : ByteArray := prog_1_method_27_code
def yX7_isPlace : MethodName := ⟨RX7, "isPlace", "(I)Z"⟩
abbrev cX7_isDoing : ByteArray := prog_1_method_28_code
def yX7_isDoing : MethodName := ⟨RX7, "isDoing", "(I)Z"⟩
abbrev cX7_sum : ByteArray := prog_1_method_29_code
def yX7_sum : MethodName := ⟨RX7, "sum", "([I)I"⟩
abbrev cX7_recorded : ByteArray := prog_1_method_30_code
def yX7_recorded : MethodName := ⟨RX7, "recorded", "(I)I"⟩
abbrev cX7_doThing : ByteArray := prog_1_method_31_code
def yX7_doThing : MethodName := ⟨RX7, "doThing", "(I)I"⟩
def RX8 : String := "HiveBylawsModel"
def TX8 : u_T := fun k => match k with
  | 0 => ("HiveBylawsModel", "s", "[I", true)
  | 1 => ("HiveBylawsModel", "states", "I", false)
  | 2 => ("HiveBylawsModel", "isKept", "Z", false)
  | 3 => ("HiveBylawsModel", "text", "[I", true)
  | 4 => ("HiveBylawsModel", "typed", "I", false)
  | 5 => ("HiveBylawsModel", "stopNumber", "I", false)
  | 6 => ("HiveBylawsModel", "stopError", "I", false)
  | 7 => ("HiveBylawsModel", "order", "[I", true)
  | 8 => ("HiveBylawsModel", "reasons", "[I", true)
  | 9 => ("HiveBylawsModel", "spot", "I", false)
  | 10 => ("HiveBylawsModel", "letter", "I", false)
  | 11 => ("HiveBylawsModel", "one", "I", false)
  | 12 => ("HiveBylawsModel", "two", "I", false)
  | 13 => ("HiveBylawsModel", "three", "I", false)
  | _ => ("HiveBylawsModel", "four", "I", false)
def tyX8 : Nat → FieldType := fun k => match k with
  | 0 => .array .int
  | 1 => .int
  | 2 => .boolean
  | 3 => .array .int
  | 4 => .int
  | 5 => .int
  | 6 => .int
  | 7 => .array .int
  | 8 => .array .int
  | 9 => .int
  | 10 => .int
  | 11 => .int
  | 12 => .int
  | 13 => .int
  | _ => .int
abbrev wsX80 : List Cond := u_ws RX8 TX8 15
theorem nmX8 : ∀ a, a < 15 → ∀ b, b < 15 → a ≠ b → (TX8 a).2.1 ≠ (TX8 b).2.1 := by decide +kernel
theorem tyX8_ok : ∀ k, k < 15 → parseFieldDescriptor (TX8 k).2.2.1 = some (tyX8 k) := by decide +kernel
abbrev cX8_init : ByteArray := prog_10_method_1_code
def yX8_init : MethodName := ⟨RX8, "<init>", "()V"⟩
abbrev cX8_in : ByteArray := prog_10_method_3_code
def yX8_in : MethodName := ⟨RX8, "in", "(III)Z"⟩
abbrev cX8_flag : ByteArray := prog_10_method_4_code
def yX8_flag : MethodName := ⟨RX8, "flag", "(Z)I"⟩
abbrev cX8_copies : ByteArray := prog_10_method_5_code
def yX8_copies : MethodName := ⟨RX8, "copies", "(II)V"⟩
abbrev cX8_records : ByteArray := prog_10_method_6_code
def yX8_records : MethodName := ⟨RX8, "records", "(I)V"⟩
abbrev cX8_droneAt : ByteArray := prog_10_method_7_code
def yX8_droneAt : MethodName := ⟨RX8, "droneAt", "(II)I"⟩
abbrev cX8_petitionAt : ByteArray := prog_10_method_8_code
def yX8_petitionAt : MethodName := ⟨RX8, "petitionAt", "(II)I"⟩
abbrev cX8_bylawAt : ByteArray := prog_10_method_9_code
def yX8_bylawAt : MethodName := ⟨RX8, "bylawAt", "(III)I"⟩
abbrev cX8_support : ByteArray := prog_10_method_10_code
def yX8_support : MethodName := ⟨RX8, "support", "(II)I"⟩
abbrev cX8_weightAt : ByteArray := prog_10_method_11_code
def yX8_weightAt : MethodName := ⟨RX8, "weightAt", "(II)I"⟩
abbrev cX8_refusedWith : ByteArray := prog_10_method_12_code
def yX8_refusedWith : MethodName := ⟨RX8, "refusedWith", "(IIII)I"⟩
abbrev cX8_refusal : ByteArray := prog_10_method_13_code
def yX8_refusal : MethodName := ⟨RX8, "refusal", "(III)I"⟩
abbrev cX8_passes : ByteArray := prog_10_method_14_code
def yX8_passes : MethodName := ⟨RX8, "passes", "(III)V"⟩
abbrev cX8_sorts : ByteArray := prog_10_method_15_code
def yX8_sorts : MethodName := ⟨RX8, "sorts", "(I)V"⟩
abbrev cX8_hears : ByteArray := prog_10_method_16_code
def yX8_hears : MethodName := ⟨RX8, "hears", "(I)I"⟩
abbrev cX8_day : ByteArray := prog_10_method_17_code
def yX8_day : MethodName := ⟨RX8, "day", "(I)I"⟩
abbrev cX8_isDrone : ByteArray := prog_10_method_18_code
def yX8_isDrone : MethodName := ⟨RX8, "isDrone", "(I)Z"⟩
abbrev cX8_isPetition : ByteArray := prog_10_method_19_code
def yX8_isPetition : MethodName := ⟨RX8, "isPetition", "(I)Z"⟩
abbrev cX8_isDoing : ByteArray := prog_10_method_20_code
def yX8_isDoing : MethodName := ⟨RX8, "isDoing", "(I)Z"⟩
abbrev cX8_isComb : ByteArray := prog_10_method_21_code
def yX8_isComb : MethodName := ⟨RX8, "isComb", "(I)Z"⟩
abbrev cX8_comes : ByteArray := prog_10_method_22_code
def yX8_comes : MethodName := ⟨RX8, "comes", "(II)I"⟩
abbrev cX8_moves : ByteArray := prog_10_method_23_code
def yX8_moves : MethodName := ⟨RX8, "moves", "(II)I"⟩
abbrev cX8_petitions : ByteArray := prog_10_method_24_code
def yX8_petitions : MethodName := ⟨RX8, "petitions", "(IIII)I"⟩
abbrev cX8_seconds : ByteArray := prog_10_method_25_code
def yX8_seconds : MethodName := ⟨RX8, "seconds", "(II)I"⟩
abbrev cX8_ends : ByteArray := prog_10_method_26_code
def yX8_ends : MethodName := ⟨RX8, "ends", "(I)I"⟩
abbrev cX8_sets : ByteArray := prog_10_method_27_code
def yX8_sets : MethodName := ⟨RX8, "sets", "(II)I"⟩
abbrev cX8_done : ByteArray := prog_10_method_28_code
def yX8_done : MethodName := ⟨RX8, "done", "(I)I"⟩
abbrev cX8_come : ByteArray := prog_10_method_29_code
def yX8_come : MethodName := ⟨RX8, "come", "(II)I"⟩
abbrev cX8_move : ByteArray := prog_10_method_30_code
def yX8_move : MethodName := ⟨RX8, "move", "(II)I"⟩
abbrev cX8_petition : ByteArray := prog_10_method_31_code
def yX8_petition : MethodName := ⟨RX8, "petition", "(IIII)I"⟩
abbrev cX8_second : ByteArray := prog_10_method_32_code
def yX8_second : MethodName := ⟨RX8, "second", "(II)I"⟩
abbrev cX8_pass : ByteArray := prog_10_method_33_code
def yX8_pass : MethodName := ⟨RX8, "pass", "(I)I"⟩
abbrev cX8_set : ByteArray := prog_10_method_34_code
def yX8_set : MethodName := ⟨RX8, "set", "(II)I"⟩
abbrev cX8_type : ByteArray := prog_10_method_35_code
def yX8_type : MethodName := ⟨RX8, "type", "(C)I"⟩
abbrev cX8_clearText : ByteArray := prog_10_method_36_code
def yX8_clearText : MethodName := ⟨RX8, "clearText", "()I"⟩
abbrev cX8_isHere : ByteArray := prog_10_method_37_code
def yX8_isHere : MethodName := ⟨RX8, "isHere", "(II)Z"⟩
abbrev cX8_takes : ByteArray := prog_10_method_38_code
def yX8_takes : MethodName := ⟨RX8, "takes", "(I)Z"⟩
abbrev cX8_number : ByteArray := prog_10_method_39_code
def yX8_number : MethodName := ⟨RX8, "number", "(II)I"⟩
abbrev cX8_readsPetition : ByteArray := prog_10_method_40_code
def yX8_readsPetition : MethodName := ⟨RX8, "readsPetition", "()Z"⟩
abbrev cX8_readsThing : ByteArray := prog_10_method_41_code
def yX8_readsThing : MethodName := ⟨RX8, "readsThing", "()Z"⟩
abbrev cX8_fault : ByteArray := prog_10_method_42_code
def yX8_fault : MethodName := ⟨RX8, "fault", "()I"⟩
abbrev cX8_does : ByteArray := prog_10_method_43_code
def yX8_does : MethodName := ⟨RX8, "does", "()I"⟩
abbrev cX8_perform : ByteArray := prog_10_method_44_code
def yX8_perform : MethodName := ⟨RX8, "perform", "()I"⟩
abbrev cX8_stopped : ByteArray := prog_10_method_45_code
def yX8_stopped : MethodName := ⟨RX8, "stopped", "(I)I"⟩
abbrev cX8_undo : ByteArray := prog_10_method_46_code
def yX8_undo : MethodName := ⟨RX8, "undo", "()I"⟩
abbrev cX8_bylaws : ByteArray := prog_10_method_47_code
def yX8_bylaws : MethodName := ⟨RX8, "bylaws", "(Z)I"⟩
abbrev cX8_keep : ByteArray := prog_10_method_48_code
def yX8_keep : MethodName := ⟨RX8, "keep", "()I"⟩
abbrev cX8_restore : ByteArray := prog_10_method_49_code
def yX8_restore : MethodName := ⟨RX8, "restore", "()I"⟩
abbrev cX8_secondedBy : ByteArray := prog_10_method_50_code
def yX8_secondedBy : MethodName := ⟨RX8, "secondedBy", "(I)I"⟩
abbrev cX8_drone : ByteArray := prog_10_method_51_code
def yX8_drone : MethodName := ⟨RX8, "drone", "(II)I"⟩
abbrev cX8_ranked : ByteArray := prog_10_method_52_code
def yX8_ranked : MethodName := ⟨RX8, "ranked", "(I)I"⟩
abbrev cX8_rankOf : ByteArray := prog_10_method_53_code
def yX8_rankOf : MethodName := ⟨RX8, "rankOf", "(I)I"⟩
abbrev cX8_bylaw : ByteArray := prog_10_method_54_code
def yX8_bylaw : MethodName := ⟨RX8, "bylaw", "(II)I"⟩
abbrev cX8_petitionOf : ByteArray := prog_10_method_55_code
def yX8_petitionOf : MethodName := ⟨RX8, "petitionOf", "(II)I"⟩
abbrev cX8_heard : ByteArray := prog_10_method_56_code
def yX8_heard : MethodName := ⟨RX8, "heard", "(I)I"⟩
abbrev cX8_ruling : ByteArray := prog_10_method_57_code
def yX8_ruling : MethodName := ⟨RX8, "ruling", "(II)I"⟩
abbrev cX8_isAllowed : ByteArray := prog_10_method_58_code
def yX8_isAllowed : MethodName := ⟨RX8, "isAllowed", "(II)Z"⟩
abbrev cX8_rule : ByteArray := prog_10_method_59_code
def yX8_rule : MethodName := ⟨RX8, "rule", "(III)I"⟩
abbrev cX8_tries : ByteArray := prog_10_method_60_code
def yX8_tries : MethodName := ⟨RX8, "tries", "()V"⟩
abbrev cX8_reason : ByteArray := prog_10_method_61_code
def yX8_reason : MethodName := ⟨RX8, "reason", "(I)I"⟩
abbrev cX8_wouldPass : ByteArray := prog_10_method_62_code
def yX8_wouldPass : MethodName := ⟨RX8, "wouldPass", "()I"⟩
abbrev cX8_lacks : ByteArray := prog_10_method_63_code
def yX8_lacks : MethodName := ⟨RX8, "lacks", "(I)I"⟩
abbrev cX8_free : ByteArray := prog_10_method_64_code
def yX8_free : MethodName := ⟨RX8, "free", "()I"⟩
abbrev cX8_oldestAt : ByteArray := prog_10_method_65_code
def yX8_oldestAt : MethodName := ⟨RX8, "oldestAt", "(I)I"⟩
abbrev cX8_oldest : ByteArray := prog_10_method_66_code
def yX8_oldest : MethodName := ⟨RX8, "oldest", "(II)I"⟩
abbrev cX8_forbiddenAtCombs : ByteArray := prog_10_method_67_code
def yX8_forbiddenAtCombs : MethodName := ⟨RX8, "forbiddenAtCombs", "()I"⟩
abbrev cX8_count : ByteArray := prog_10_method_68_code
def yX8_count : MethodName := ⟨RX8, "count", "(I)I"⟩
def RJ10 : String := "java/lang/System"
def TJ10 : u_T := fun k => match k with
  | _ => ("", "", "", false)
def tyJ10 : Nat → FieldType := fun k => match k with
  | _ => .int
abbrev wsJ100 : List Cond := u_ws RJ10 TJ10 0
theorem nmJ10 : ∀ a, a < 0 → ∀ b, b < 0 → a ≠ b → (TJ10 a).2.1 ≠ (TJ10 b).2.1 := by decide +kernel
theorem tyJ10_ok : ∀ k, k < 0 → parseFieldDescriptor (TJ10 k).2.2.1 = some (tyJ10 k) := by decide +kernel
def RL : String := "HiveBylawsLaw"
abbrev cL_law : ByteArray := code
def yL_law : MethodName := ⟨RL, "law", "([I)Z"⟩
abbrev vwCl : List vw_C := [(RX0, TX0, 3), (RX1, TX1, 3), (RX2, TX2, 9), (RX3, TX3, 7), (RX4, TX4, 5), (RX5, TX5, 10), (RX6, TX6, 6), (RX7, TX7, 9), (RX8, TX8, 15)]
