section
-- ===== PART A: goes FIRST, ahead of the names: the tables' words, and 'selects' of the private methods out of them =====
/-- a private method of a class that the tables say can be made, by its rows of tables_1 -/
def lw_okq (q : MethodName × Nat) : Prop := (q.1.cls ≠ "java/lang/invoke/MethodHandle" ∧ q.1.cls ≠ "java/lang/invoke/VarHandle") ∧ Cond.instantiable q.1.cls q.2 ∈ tables_1 ∧ Cond.privateMethod q.1 ∈ tables_1 ∧ Cond.instanceMethod q.1 ∈ tables_1
theorem lw_p0 : lw_okq (⟨"HiveBylaws", "recorded", "(I)I"⟩, 9) := ⟨⟨by decide +kernel, by decide +kernel⟩, List.mem_of_getElem? (i := 12) (by decide +kernel), List.mem_of_getElem? (i := 326) (by decide +kernel), List.mem_of_getElem? (i := 327) (by decide +kernel)⟩
theorem lw_p1 : lw_okq (⟨"HiveBylaws$State", "endSeason", "()I"⟩, 10) := ⟨⟨by decide +kernel, by decide +kernel⟩, List.mem_of_getElem? (i := 20) (by decide +kernel), List.mem_of_getElem? (i := 390) (by decide +kernel), List.mem_of_getElem? (i := 391) (by decide +kernel)⟩
theorem lw_p2 : lw_okq (⟨"HiveBylaws$Petitions", "rankOf", "(I)I"⟩, 7) := ⟨⟨by decide +kernel, by decide +kernel⟩, List.mem_of_getElem? (i := 86) (by decide +kernel), List.mem_of_getElem? (i := 402) (by decide +kernel), List.mem_of_getElem? (i := 403) (by decide +kernel)⟩
theorem lw_p3 : lw_okq (⟨"HiveBylaws$State", "grant", "(I)V"⟩, 10) := ⟨⟨by decide +kernel, by decide +kernel⟩, List.mem_of_getElem? (i := 20) (by decide +kernel), List.mem_of_getElem? (i := 426) (by decide +kernel), List.mem_of_getElem? (i := 427) (by decide +kernel)⟩
theorem lw_p4 : lw_okq (⟨"HiveBylaws$PetitionText", "readThing", "(I)Z"⟩, 9) := ⟨⟨by decide +kernel, by decide +kernel⟩, List.mem_of_getElem? (i := 215) (by decide +kernel), List.mem_of_getElem? (i := 466) (by decide +kernel), List.mem_of_getElem? (i := 467) (by decide +kernel)⟩
theorem lw_p5 : lw_okq (⟨"HiveBylaws$PetitionText", "skip", "(C)Z"⟩, 9) := ⟨⟨by decide +kernel, by decide +kernel⟩, List.mem_of_getElem? (i := 215) (by decide +kernel), List.mem_of_getElem? (i := 470) (by decide +kernel), List.mem_of_getElem? (i := 471) (by decide +kernel)⟩
theorem lw_p6 : lw_okq (⟨"HiveBylaws$PetitionText", "readPetition", "(I)Z"⟩, 9) := ⟨⟨by decide +kernel, by decide +kernel⟩, List.mem_of_getElem? (i := 215) (by decide +kernel), List.mem_of_getElem? (i := 474) (by decide +kernel), List.mem_of_getElem? (i := 475) (by decide +kernel)⟩
theorem lw_p7 : lw_okq (⟨"HiveBylaws$PetitionText", "readNumber", "(II)I"⟩, 9) := ⟨⟨by decide +kernel, by decide +kernel⟩, List.mem_of_getElem? (i := 215) (by decide +kernel), List.mem_of_getElem? (i := 478) (by decide +kernel), List.mem_of_getElem? (i := 479) (by decide +kernel)⟩
theorem lw_p8 : lw_okq (⟨"HiveBylaws$PetitionText", "digitHere", "()I"⟩, 9) := ⟨⟨by decide +kernel, by decide +kernel⟩, List.mem_of_getElem? (i := 215) (by decide +kernel), List.mem_of_getElem? (i := 482) (by decide +kernel), List.mem_of_getElem? (i := 483) (by decide +kernel)⟩
theorem lw_p9 : lw_okq (⟨"HiveBylaws$PetitionText", "readKind", "()I"⟩, 9) := ⟨⟨by decide +kernel, by decide +kernel⟩, List.mem_of_getElem? (i := 215) (by decide +kernel), List.mem_of_getElem? (i := 486) (by decide +kernel), List.mem_of_getElem? (i := 487) (by decide +kernel)⟩
theorem lw_p10 : lw_okq (⟨"HiveBylaws$PetitionText", "readSeconding", "(I)Z"⟩, 9) := ⟨⟨by decide +kernel, by decide +kernel⟩, List.mem_of_getElem? (i := 215) (by decide +kernel), List.mem_of_getElem? (i := 490) (by decide +kernel), List.mem_of_getElem? (i := 491) (by decide +kernel)⟩
theorem lw_p11 : lw_okq (⟨"HiveBylaws", "doThing", "(I)I"⟩, 9) := ⟨⟨by decide +kernel, by decide +kernel⟩, List.mem_of_getElem? (i := 12) (by decide +kernel), List.mem_of_getElem? (i := 494) (by decide +kernel), List.mem_of_getElem? (i := 495) (by decide +kernel)⟩
theorem lw_p12 : lw_okq (⟨"HiveBylawsModel", "copies", "(II)V"⟩, 15) := ⟨⟨by decide +kernel, by decide +kernel⟩, List.mem_of_getElem? (i := 620) (by decide +kernel), List.mem_of_getElem? (i := 676) (by decide +kernel), List.mem_of_getElem? (i := 677) (by decide +kernel)⟩
theorem lw_p13 : lw_okq (⟨"HiveBylawsModel", "comes", "(II)I"⟩, 15) := ⟨⟨by decide +kernel, by decide +kernel⟩, List.mem_of_getElem? (i := 620) (by decide +kernel), List.mem_of_getElem? (i := 680) (by decide +kernel), List.mem_of_getElem? (i := 681) (by decide +kernel)⟩
theorem lw_p14 : lw_okq (⟨"HiveBylawsModel", "done", "(I)I"⟩, 15) := ⟨⟨by decide +kernel, by decide +kernel⟩, List.mem_of_getElem? (i := 620) (by decide +kernel), List.mem_of_getElem? (i := 693) (by decide +kernel), List.mem_of_getElem? (i := 694) (by decide +kernel)⟩
theorem lw_p15 : lw_okq (⟨"HiveBylawsModel", "records", "(I)V"⟩, 15) := ⟨⟨by decide +kernel, by decide +kernel⟩, List.mem_of_getElem? (i := 620) (by decide +kernel), List.mem_of_getElem? (i := 697) (by decide +kernel), List.mem_of_getElem? (i := 698) (by decide +kernel)⟩
def lw_privs_1 : List (MethodName × Nat) := [(⟨"HiveBylaws", "recorded", "(I)I"⟩, 9), (⟨"HiveBylaws$State", "endSeason", "()I"⟩, 10), (⟨"HiveBylaws$Petitions", "rankOf", "(I)I"⟩, 7), (⟨"HiveBylaws$State", "grant", "(I)V"⟩, 10), (⟨"HiveBylaws$PetitionText", "readThing", "(I)Z"⟩, 9), (⟨"HiveBylaws$PetitionText", "skip", "(C)Z"⟩, 9), (⟨"HiveBylaws$PetitionText", "readPetition", "(I)Z"⟩, 9), (⟨"HiveBylaws$PetitionText", "readNumber", "(II)I"⟩, 9), (⟨"HiveBylaws$PetitionText", "digitHere", "()I"⟩, 9), (⟨"HiveBylaws$PetitionText", "readKind", "()I"⟩, 9), (⟨"HiveBylaws$PetitionText", "readSeconding", "(I)Z"⟩, 9), (⟨"HiveBylaws", "doThing", "(I)I"⟩, 9), (⟨"HiveBylawsModel", "copies", "(II)V"⟩, 15), (⟨"HiveBylawsModel", "comes", "(II)I"⟩, 15), (⟨"HiveBylawsModel", "done", "(I)I"⟩, 15), (⟨"HiveBylawsModel", "records", "(I)V"⟩, 15)]
theorem lw_r1 : ∀ q ∈ lw_privs_1, lw_okq q := List.forall_mem_cons.mpr ⟨lw_p0, List.forall_mem_cons.mpr ⟨lw_p1, List.forall_mem_cons.mpr ⟨lw_p2, List.forall_mem_cons.mpr ⟨lw_p3, List.forall_mem_cons.mpr ⟨lw_p4, List.forall_mem_cons.mpr ⟨lw_p5, List.forall_mem_cons.mpr ⟨lw_p6, List.forall_mem_cons.mpr ⟨lw_p7, List.forall_mem_cons.mpr ⟨lw_p8, List.forall_mem_cons.mpr ⟨lw_p9, List.forall_mem_cons.mpr ⟨lw_p10, List.forall_mem_cons.mpr ⟨lw_p11, List.forall_mem_cons.mpr ⟨lw_p12, List.forall_mem_cons.mpr ⟨lw_p13, List.forall_mem_cons.mpr ⟨lw_p14, List.forall_mem_cons.mpr ⟨lw_p15, fun _ h => absurd h List.not_mem_nil⟩⟩⟩⟩⟩⟩⟩⟩⟩⟩⟩⟩⟩⟩⟩⟩
theorem lw_p16 : lw_okq (⟨"HiveBylawsModel", "moves", "(II)I"⟩, 15) := ⟨⟨by decide +kernel, by decide +kernel⟩, List.mem_of_getElem? (i := 620) (by decide +kernel), List.mem_of_getElem? (i := 705) (by decide +kernel), List.mem_of_getElem? (i := 706) (by decide +kernel)⟩
theorem lw_p17 : lw_okq (⟨"HiveBylawsModel", "isDrone", "(I)Z"⟩, 15) := ⟨⟨by decide +kernel, by decide +kernel⟩, List.mem_of_getElem? (i := 620) (by decide +kernel), List.mem_of_getElem? (i := 709) (by decide +kernel), List.mem_of_getElem? (i := 710) (by decide +kernel)⟩
theorem lw_p18 : lw_okq (⟨"HiveBylawsModel", "petitions", "(IIII)I"⟩, 15) := ⟨⟨by decide +kernel, by decide +kernel⟩, List.mem_of_getElem? (i := 620) (by decide +kernel), List.mem_of_getElem? (i := 717) (by decide +kernel), List.mem_of_getElem? (i := 718) (by decide +kernel)⟩
theorem lw_p19 : lw_okq (⟨"HiveBylawsModel", "seconds", "(II)I"⟩, 15) := ⟨⟨by decide +kernel, by decide +kernel⟩, List.mem_of_getElem? (i := 620) (by decide +kernel), List.mem_of_getElem? (i := 731) (by decide +kernel), List.mem_of_getElem? (i := 732) (by decide +kernel)⟩
theorem lw_p20 : lw_okq (⟨"HiveBylawsModel", "isPetition", "(I)Z"⟩, 15) := ⟨⟨by decide +kernel, by decide +kernel⟩, List.mem_of_getElem? (i := 620) (by decide +kernel), List.mem_of_getElem? (i := 735) (by decide +kernel), List.mem_of_getElem? (i := 736) (by decide +kernel)⟩
theorem lw_p21 : lw_okq (⟨"HiveBylawsModel", "support", "(II)I"⟩, 15) := ⟨⟨by decide +kernel, by decide +kernel⟩, List.mem_of_getElem? (i := 620) (by decide +kernel), List.mem_of_getElem? (i := 739) (by decide +kernel), List.mem_of_getElem? (i := 740) (by decide +kernel)⟩
theorem lw_p22 : lw_okq (⟨"HiveBylawsModel", "ends", "(I)I"⟩, 15) := ⟨⟨by decide +kernel, by decide +kernel⟩, List.mem_of_getElem? (i := 620) (by decide +kernel), List.mem_of_getElem? (i := 747) (by decide +kernel), List.mem_of_getElem? (i := 748) (by decide +kernel)⟩
theorem lw_p23 : lw_okq (⟨"HiveBylawsModel", "day", "(I)I"⟩, 15) := ⟨⟨by decide +kernel, by decide +kernel⟩, List.mem_of_getElem? (i := 620) (by decide +kernel), List.mem_of_getElem? (i := 752) (by decide +kernel), List.mem_of_getElem? (i := 753) (by decide +kernel)⟩
theorem lw_p24 : lw_okq (⟨"HiveBylawsModel", "hears", "(I)I"⟩, 15) := ⟨⟨by decide +kernel, by decide +kernel⟩, List.mem_of_getElem? (i := 620) (by decide +kernel), List.mem_of_getElem? (i := 756) (by decide +kernel), List.mem_of_getElem? (i := 757) (by decide +kernel)⟩
theorem lw_p25 : lw_okq (⟨"HiveBylawsModel", "sorts", "(I)V"⟩, 15) := ⟨⟨by decide +kernel, by decide +kernel⟩, List.mem_of_getElem? (i := 620) (by decide +kernel), List.mem_of_getElem? (i := 760) (by decide +kernel), List.mem_of_getElem? (i := 761) (by decide +kernel)⟩
theorem lw_p26 : lw_okq (⟨"HiveBylawsModel", "refusal", "(III)I"⟩, 15) := ⟨⟨by decide +kernel, by decide +kernel⟩, List.mem_of_getElem? (i := 620) (by decide +kernel), List.mem_of_getElem? (i := 764) (by decide +kernel), List.mem_of_getElem? (i := 765) (by decide +kernel)⟩
theorem lw_p27 : lw_okq (⟨"HiveBylawsModel", "refusedWith", "(IIII)I"⟩, 15) := ⟨⟨by decide +kernel, by decide +kernel⟩, List.mem_of_getElem? (i := 620) (by decide +kernel), List.mem_of_getElem? (i := 771) (by decide +kernel), List.mem_of_getElem? (i := 772) (by decide +kernel)⟩
theorem lw_p28 : lw_okq (⟨"HiveBylawsModel", "weightAt", "(II)I"⟩, 15) := ⟨⟨by decide +kernel, by decide +kernel⟩, List.mem_of_getElem? (i := 620) (by decide +kernel), List.mem_of_getElem? (i := 775) (by decide +kernel), List.mem_of_getElem? (i := 776) (by decide +kernel)⟩
theorem lw_p29 : lw_okq (⟨"HiveBylawsModel", "passes", "(III)V"⟩, 15) := ⟨⟨by decide +kernel, by decide +kernel⟩, List.mem_of_getElem? (i := 620) (by decide +kernel), List.mem_of_getElem? (i := 779) (by decide +kernel), List.mem_of_getElem? (i := 780) (by decide +kernel)⟩
theorem lw_p30 : lw_okq (⟨"HiveBylawsModel", "sets", "(II)I"⟩, 15) := ⟨⟨by decide +kernel, by decide +kernel⟩, List.mem_of_getElem? (i := 620) (by decide +kernel), List.mem_of_getElem? (i := 790) (by decide +kernel), List.mem_of_getElem? (i := 791) (by decide +kernel)⟩
theorem lw_p31 : lw_okq (⟨"HiveBylawsModel", "fault", "()I"⟩, 15) := ⟨⟨by decide +kernel, by decide +kernel⟩, List.mem_of_getElem? (i := 620) (by decide +kernel), List.mem_of_getElem? (i := 806) (by decide +kernel), List.mem_of_getElem? (i := 807) (by decide +kernel)⟩
def lw_privs_2 : List (MethodName × Nat) := [(⟨"HiveBylawsModel", "moves", "(II)I"⟩, 15), (⟨"HiveBylawsModel", "isDrone", "(I)Z"⟩, 15), (⟨"HiveBylawsModel", "petitions", "(IIII)I"⟩, 15), (⟨"HiveBylawsModel", "seconds", "(II)I"⟩, 15), (⟨"HiveBylawsModel", "isPetition", "(I)Z"⟩, 15), (⟨"HiveBylawsModel", "support", "(II)I"⟩, 15), (⟨"HiveBylawsModel", "ends", "(I)I"⟩, 15), (⟨"HiveBylawsModel", "day", "(I)I"⟩, 15), (⟨"HiveBylawsModel", "hears", "(I)I"⟩, 15), (⟨"HiveBylawsModel", "sorts", "(I)V"⟩, 15), (⟨"HiveBylawsModel", "refusal", "(III)I"⟩, 15), (⟨"HiveBylawsModel", "refusedWith", "(IIII)I"⟩, 15), (⟨"HiveBylawsModel", "weightAt", "(II)I"⟩, 15), (⟨"HiveBylawsModel", "passes", "(III)V"⟩, 15), (⟨"HiveBylawsModel", "sets", "(II)I"⟩, 15), (⟨"HiveBylawsModel", "fault", "()I"⟩, 15)]
theorem lw_r2 : ∀ q ∈ lw_privs_2, lw_okq q := List.forall_mem_cons.mpr ⟨lw_p16, List.forall_mem_cons.mpr ⟨lw_p17, List.forall_mem_cons.mpr ⟨lw_p18, List.forall_mem_cons.mpr ⟨lw_p19, List.forall_mem_cons.mpr ⟨lw_p20, List.forall_mem_cons.mpr ⟨lw_p21, List.forall_mem_cons.mpr ⟨lw_p22, List.forall_mem_cons.mpr ⟨lw_p23, List.forall_mem_cons.mpr ⟨lw_p24, List.forall_mem_cons.mpr ⟨lw_p25, List.forall_mem_cons.mpr ⟨lw_p26, List.forall_mem_cons.mpr ⟨lw_p27, List.forall_mem_cons.mpr ⟨lw_p28, List.forall_mem_cons.mpr ⟨lw_p29, List.forall_mem_cons.mpr ⟨lw_p30, List.forall_mem_cons.mpr ⟨lw_p31, fun _ h => absurd h List.not_mem_nil⟩⟩⟩⟩⟩⟩⟩⟩⟩⟩⟩⟩⟩⟩⟩⟩
theorem lw_p32 : lw_okq (⟨"HiveBylawsModel", "readsThing", "()Z"⟩, 15) := ⟨⟨by decide +kernel, by decide +kernel⟩, List.mem_of_getElem? (i := 620) (by decide +kernel), List.mem_of_getElem? (i := 810) (by decide +kernel), List.mem_of_getElem? (i := 811) (by decide +kernel)⟩
theorem lw_p33 : lw_okq (⟨"HiveBylawsModel", "readsPetition", "()Z"⟩, 15) := ⟨⟨by decide +kernel, by decide +kernel⟩, List.mem_of_getElem? (i := 620) (by decide +kernel), List.mem_of_getElem? (i := 814) (by decide +kernel), List.mem_of_getElem? (i := 815) (by decide +kernel)⟩
theorem lw_p34 : lw_okq (⟨"HiveBylawsModel", "number", "(II)I"⟩, 15) := ⟨⟨by decide +kernel, by decide +kernel⟩, List.mem_of_getElem? (i := 620) (by decide +kernel), List.mem_of_getElem? (i := 818) (by decide +kernel), List.mem_of_getElem? (i := 819) (by decide +kernel)⟩
theorem lw_p35 : lw_okq (⟨"HiveBylawsModel", "isHere", "(II)Z"⟩, 15) := ⟨⟨by decide +kernel, by decide +kernel⟩, List.mem_of_getElem? (i := 620) (by decide +kernel), List.mem_of_getElem? (i := 822) (by decide +kernel), List.mem_of_getElem? (i := 823) (by decide +kernel)⟩
theorem lw_p36 : lw_okq (⟨"HiveBylawsModel", "takes", "(I)Z"⟩, 15) := ⟨⟨by decide +kernel, by decide +kernel⟩, List.mem_of_getElem? (i := 620) (by decide +kernel), List.mem_of_getElem? (i := 826) (by decide +kernel), List.mem_of_getElem? (i := 827) (by decide +kernel)⟩
theorem lw_p37 : lw_okq (⟨"HiveBylawsModel", "does", "()I"⟩, 15) := ⟨⟨by decide +kernel, by decide +kernel⟩, List.mem_of_getElem? (i := 620) (by decide +kernel), List.mem_of_getElem? (i := 830) (by decide +kernel), List.mem_of_getElem? (i := 831) (by decide +kernel)⟩
theorem lw_p38 : lw_okq (⟨"HiveBylawsModel", "bylaws", "(Z)I"⟩, 15) := ⟨⟨by decide +kernel, by decide +kernel⟩, List.mem_of_getElem? (i := 620) (by decide +kernel), List.mem_of_getElem? (i := 846) (by decide +kernel), List.mem_of_getElem? (i := 847) (by decide +kernel)⟩
theorem lw_p39 : lw_okq (⟨"HiveBylawsModel", "secondedBy", "(I)I"⟩, 15) := ⟨⟨by decide +kernel, by decide +kernel⟩, List.mem_of_getElem? (i := 620) (by decide +kernel), List.mem_of_getElem? (i := 858) (by decide +kernel), List.mem_of_getElem? (i := 859) (by decide +kernel)⟩
theorem lw_p40 : lw_okq (⟨"HiveBylawsModel", "ranked", "(I)I"⟩, 15) := ⟨⟨by decide +kernel, by decide +kernel⟩, List.mem_of_getElem? (i := 620) (by decide +kernel), List.mem_of_getElem? (i := 866) (by decide +kernel), List.mem_of_getElem? (i := 867) (by decide +kernel)⟩
theorem lw_p41 : lw_okq (⟨"HiveBylawsModel", "ruling", "(II)I"⟩, 15) := ⟨⟨by decide +kernel, by decide +kernel⟩, List.mem_of_getElem? (i := 620) (by decide +kernel), List.mem_of_getElem? (i := 882) (by decide +kernel), List.mem_of_getElem? (i := 883) (by decide +kernel)⟩
theorem lw_p42 : lw_okq (⟨"HiveBylawsModel", "isAllowed", "(II)Z"⟩, 15) := ⟨⟨by decide +kernel, by decide +kernel⟩, List.mem_of_getElem? (i := 620) (by decide +kernel), List.mem_of_getElem? (i := 886) (by decide +kernel), List.mem_of_getElem? (i := 887) (by decide +kernel)⟩
theorem lw_p43 : lw_okq (⟨"HiveBylawsModel", "tries", "()V"⟩, 15) := ⟨⟨by decide +kernel, by decide +kernel⟩, List.mem_of_getElem? (i := 620) (by decide +kernel), List.mem_of_getElem? (i := 894) (by decide +kernel), List.mem_of_getElem? (i := 895) (by decide +kernel)⟩
theorem lw_p44 : lw_okq (⟨"HiveBylawsModel", "oldestAt", "(I)I"⟩, 15) := ⟨⟨by decide +kernel, by decide +kernel⟩, List.mem_of_getElem? (i := 620) (by decide +kernel), List.mem_of_getElem? (i := 914) (by decide +kernel), List.mem_of_getElem? (i := 915) (by decide +kernel)⟩
theorem lw_p45 : lw_okq (⟨"HiveBylawsModel", "rankOf", "(I)I"⟩, 15) := ⟨⟨by decide +kernel, by decide +kernel⟩, List.mem_of_getElem? (i := 620) (by decide +kernel), List.mem_of_getElem? (i := 918) (by decide +kernel), List.mem_of_getElem? (i := 919) (by decide +kernel)⟩
theorem lw_p46 : lw_okq (⟨"HiveBylawsModel", "forbiddenAtCombs", "()I"⟩, 15) := ⟨⟨by decide +kernel, by decide +kernel⟩, List.mem_of_getElem? (i := 620) (by decide +kernel), List.mem_of_getElem? (i := 926) (by decide +kernel), List.mem_of_getElem? (i := 927) (by decide +kernel)⟩
def lw_privs_3 : List (MethodName × Nat) := [(⟨"HiveBylawsModel", "readsThing", "()Z"⟩, 15), (⟨"HiveBylawsModel", "readsPetition", "()Z"⟩, 15), (⟨"HiveBylawsModel", "number", "(II)I"⟩, 15), (⟨"HiveBylawsModel", "isHere", "(II)Z"⟩, 15), (⟨"HiveBylawsModel", "takes", "(I)Z"⟩, 15), (⟨"HiveBylawsModel", "does", "()I"⟩, 15), (⟨"HiveBylawsModel", "bylaws", "(Z)I"⟩, 15), (⟨"HiveBylawsModel", "secondedBy", "(I)I"⟩, 15), (⟨"HiveBylawsModel", "ranked", "(I)I"⟩, 15), (⟨"HiveBylawsModel", "ruling", "(II)I"⟩, 15), (⟨"HiveBylawsModel", "isAllowed", "(II)Z"⟩, 15), (⟨"HiveBylawsModel", "tries", "()V"⟩, 15), (⟨"HiveBylawsModel", "oldestAt", "(I)I"⟩, 15), (⟨"HiveBylawsModel", "rankOf", "(I)I"⟩, 15), (⟨"HiveBylawsModel", "forbiddenAtCombs", "()I"⟩, 15)]
theorem lw_r3 : ∀ q ∈ lw_privs_3, lw_okq q := List.forall_mem_cons.mpr ⟨lw_p32, List.forall_mem_cons.mpr ⟨lw_p33, List.forall_mem_cons.mpr ⟨lw_p34, List.forall_mem_cons.mpr ⟨lw_p35, List.forall_mem_cons.mpr ⟨lw_p36, List.forall_mem_cons.mpr ⟨lw_p37, List.forall_mem_cons.mpr ⟨lw_p38, List.forall_mem_cons.mpr ⟨lw_p39, List.forall_mem_cons.mpr ⟨lw_p40, List.forall_mem_cons.mpr ⟨lw_p41, List.forall_mem_cons.mpr ⟨lw_p42, List.forall_mem_cons.mpr ⟨lw_p43, List.forall_mem_cons.mpr ⟨lw_p44, List.forall_mem_cons.mpr ⟨lw_p45, List.forall_mem_cons.mpr ⟨lw_p46, fun _ h => absurd h List.not_mem_nil⟩⟩⟩⟩⟩⟩⟩⟩⟩⟩⟩⟩⟩⟩⟩
def lw_privs : List (MethodName × Nat) := lw_privs_1 ++ (lw_privs_2 ++ (lw_privs_3))
def lw_tbl : List Cond := k2_sels lw_privs ++ tables_1
theorem lw_privs_ok : ∀ q ∈ lw_privs, lw_okq q := by
  show ∀ q ∈ lw_privs_1 ++ (lw_privs_2 ++ (lw_privs_3)), lw_okq q
  exact List.forall_mem_append.mpr ⟨lw_r1, List.forall_mem_append.mpr ⟨lw_r2, lw_r3⟩⟩
-- ===== end of PART A; then your names; then what follows =====
def RX0 : String := "HiveBylaws$History"
def TX0 : u_T := fun k => match k with
  | 0 => ("HiveBylaws$History", "ring", "[LHiveBylaws$State;", true)
  | 1 => ("HiveBylaws$History", "first", "I", false)
  | _ => ("HiveBylaws$History", "size", "I", false)
def tyX0 : Nat → FieldType := fun k => match k with
  | 0 => .array (.object "HiveBylaws$State")
  | 1 => .int
  | _ => .int
abbrev wsX00 : List Cond := u_ws RX0 TX0 3
theorem nmX0 : ∀ a, a < 3 → ∀ b, b < 3 → a ≠ b → (TX0 a).2.1 ≠ (TX0 b).2.1 := by decide +kernel
theorem tyX0_ok : ∀ k, k < 3 → parseFieldDescriptor (TX0 k).2.2.1 = some (tyX0 k) := by decide +kernel
abbrev cX0_init : ByteArray := prog_2_method_1_code
def yX0_init : MethodName := ⟨RX0, "<init>", "()V"⟩
abbrev cX0_remember : ByteArray := prog_2_method_2_code
def yX0_remember : MethodName := ⟨RX0, "remember", "(LHiveBylaws$State;)V"⟩
abbrev cX0_takeBack : ByteArray := prog_2_method_3_code
def yX0_takeBack : MethodName := ⟨RX0, "takeBack", "(LHiveBylaws$State;)I"⟩
def RX1 : String := "HiveBylaws$Laws"
def TX1 : u_T := fun k => match k with
  | 0 => ("HiveBylaws$Laws", "stance", "[I", true)
  | 1 => ("HiveBylaws$Laws", "strength", "[I", true)
  | _ => ("HiveBylaws$Laws", "season", "[I", true)
def tyX1 : Nat → FieldType := fun k => match k with
  | 0 => .array .int
  | 1 => .array .int
  | _ => .array .int
abbrev wsX10 : List Cond := u_ws RX1 TX1 3
theorem nmX1 : ∀ a, a < 3 → ∀ b, b < 3 → a ≠ b → (TX1 a).2.1 ≠ (TX1 b).2.1 := by decide +kernel
theorem tyX1_ok : ∀ k, k < 3 → parseFieldDescriptor (TX1 k).2.2.1 = some (tyX1 k) := by decide +kernel
abbrev cX1_init : ByteArray := prog_3_method_1_code
def yX1_init : MethodName := ⟨RX1, "<init>", "()V"⟩
abbrev cX1_copyFrom : ByteArray := prog_3_method_2_code
def yX1_copyFrom : MethodName := ⟨RX1, "copyFrom", "(LHiveBylaws$Laws;)V"⟩
abbrev cX1_stanceOf : ByteArray := prog_3_method_3_code
def yX1_stanceOf : MethodName := ⟨RX1, "stanceOf", "(II)I"⟩
abbrev cX1_strengthOf : ByteArray := prog_3_method_4_code
def yX1_strengthOf : MethodName := ⟨RX1, "strengthOf", "(II)I"⟩
abbrev cX1_size : ByteArray := prog_3_method_5_code
def yX1_size : MethodName := ⟨RX1, "size", "()I"⟩
abbrev cX1_rankOf : ByteArray := prog_3_method_6_code
def yX1_rankOf : MethodName := ⟨RX1, "rankOf", "(I)I"⟩
abbrev cX1_spotAt : ByteArray := prog_3_method_7_code
def yX1_spotAt : MethodName := ⟨RX1, "spotAt", "(I)I"⟩
abbrev cX1_rulingPlace : ByteArray := prog_3_method_8_code
def yX1_rulingPlace : MethodName := ⟨RX1, "rulingPlace", "(II)I"⟩
abbrev cX1_isForbidden : ByteArray := prog_3_method_9_code
def yX1_isForbidden : MethodName := ⟨RX1, "isForbidden", "(II)Z"⟩
abbrev cX1_forbidding : ByteArray := prog_3_method_10_code
def yX1_forbidding : MethodName := ⟨RX1, "forbidding", "()I"⟩
abbrev cX1_forbiddenDoings : ByteArray := prog_3_method_11_code
def yX1_forbiddenDoings : MethodName := ⟨RX1, "forbiddenDoings", "()I"⟩
abbrev cX1_oldestSpot : ByteArray := prog_3_method_12_code
def yX1_oldestSpot : MethodName := ⟨RX1, "oldestSpot", "(I)I"⟩
def RX2 : String := "HiveBylaws$PetitionText"
def TX2 : u_T := fun k => match k with
  | 0 => ("HiveBylaws$PetitionText", "characters", "[C", true)
  | 1 => ("HiveBylaws$PetitionText", "length", "I", false)
  | 2 => ("HiveBylaws$PetitionText", "at", "I", false)
  | 3 => ("HiveBylaws$PetitionText", "things", "I", false)
  | 4 => ("HiveBylaws$PetitionText", "act", "[I", true)
  | 5 => ("HiveBylaws$PetitionText", "drone", "[I", true)
  | 6 => ("HiveBylaws$PetitionText", "number", "[I", true)
  | 7 => ("HiveBylaws$PetitionText", "doing", "[I", true)
  | _ => ("HiveBylaws$PetitionText", "kind", "[I", true)
def tyX2 : Nat → FieldType := fun k => match k with
  | 0 => .array .char
  | 1 => .int
  | 2 => .int
  | 3 => .int
  | 4 => .array .int
  | 5 => .array .int
  | 6 => .array .int
  | 7 => .array .int
  | _ => .array .int
abbrev wsX20 : List Cond := u_ws RX2 TX2 9
theorem nmX2 : ∀ a, a < 9 → ∀ b, b < 9 → a ≠ b → (TX2 a).2.1 ≠ (TX2 b).2.1 := by decide +kernel
theorem tyX2_ok : ∀ k, k < 9 → parseFieldDescriptor (TX2 k).2.2.1 = some (tyX2 k) := by decide +kernel
abbrev cX2_init : ByteArray := prog_4_method_1_code
def yX2_init : MethodName := ⟨RX2, "<init>", "()V"⟩
abbrev cX2_append : ByteArray := prog_4_method_2_code
def yX2_append : MethodName := ⟨RX2, "append", "(C)I"⟩
abbrev cX2_empty : ByteArray := prog_4_method_3_code
def yX2_empty : MethodName := ⟨RX2, "empty", "()I"⟩
abbrev cX2_read : ByteArray := prog_4_method_4_code
def yX2_read : MethodName := ⟨RX2, "read", "()I"⟩
abbrev cX2_readThing : ByteArray := prog_4_method_5_code
def yX2_readThing : MethodName := ⟨RX2, "readThing", "(I)Z"⟩
abbrev cX2_readPetition : ByteArray := prog_4_method_6_code
def yX2_readPetition : MethodName := ⟨RX2, "readPetition", "(I)Z"⟩
abbrev cX2_readSeconding : ByteArray := prog_4_method_7_code
def yX2_readSeconding : MethodName := ⟨RX2, "readSeconding", "(I)Z"⟩
abbrev cX2_readKind : ByteArray := prog_4_method_8_code
def yX2_readKind : MethodName := ⟨RX2, "readKind", "()I"⟩
abbrev cX2_readNumber : ByteArray := prog_4_method_9_code
def yX2_readNumber : MethodName := ⟨RX2, "readNumber", "(II)I"⟩
abbrev cX2_digitHere : ByteArray := prog_4_method_10_code
def yX2_digitHere : MethodName := ⟨RX2, "digitHere", "()I"⟩
abbrev cX2_skip : ByteArray := prog_4_method_11_code
def yX2_skip : MethodName := ⟨RX2, "skip", "(C)Z"⟩
def RX3 : String := "HiveBylaws$Petitions"
def TX3 : u_T := fun k => match k with
  | 0 => ("HiveBylaws$Petitions", "size", "I", false)
  | 1 => ("HiveBylaws$Petitions", "drone", "[I", true)
  | 2 => ("HiveBylaws$Petitions", "place", "[I", true)
  | 3 => ("HiveBylaws$Petitions", "doing", "[I", true)
  | 4 => ("HiveBylaws$Petitions", "kind", "[I", true)
  | 5 => ("HiveBylaws$Petitions", "support", "[I", true)
  | _ => ("HiveBylaws$Petitions", "seconders", "[I", true)
def tyX3 : Nat → FieldType := fun k => match k with
  | 0 => .int
  | 1 => .array .int
  | 2 => .array .int
  | 3 => .array .int
  | 4 => .array .int
  | 5 => .array .int
  | _ => .array .int
abbrev wsX30 : List Cond := u_ws RX3 TX3 7
theorem nmX3 : ∀ a, a < 7 → ∀ b, b < 7 → a ≠ b → (TX3 a).2.1 ≠ (TX3 b).2.1 := by decide +kernel
theorem tyX3_ok : ∀ k, k < 7 → parseFieldDescriptor (TX3 k).2.2.1 = some (tyX3 k) := by decide +kernel
abbrev cX3_init : ByteArray := prog_5_method_1_code
def yX3_init : MethodName := ⟨RX3, "<init>", "()V"⟩
abbrev cX3_copyFrom : ByteArray := prog_5_method_2_code
def yX3_copyFrom : MethodName := ⟨RX3, "copyFrom", "(LHiveBylaws$Petitions;)V"⟩
abbrev cX3_has : ByteArray := prog_5_method_3_code
def yX3_has : MethodName := ⟨RX3, "has", "(I)Z"⟩
abbrev cX3_add : ByteArray := prog_5_method_4_code
def yX3_add : MethodName := ⟨RX3, "add", "(IIIII)I"⟩
abbrev cX3_madeBy : ByteArray := prog_5_method_5_code
def yX3_madeBy : MethodName := ⟨RX3, "madeBy", "(I)I"⟩
abbrev cX3_makers : ByteArray := prog_5_method_6_code
def yX3_makers : MethodName := ⟨RX3, "makers", "()I"⟩
abbrev cX3_secondedBy : ByteArray := prog_5_method_7_code
def yX3_secondedBy : MethodName := ⟨RX3, "secondedBy", "(I)I"⟩
abbrev cX3_atRank : ByteArray := prog_5_method_8_code
def yX3_atRank : MethodName := ⟨RX3, "atRank", "(I)I"⟩
abbrev cX3_rankOf : ByteArray := prog_5_method_9_code
def yX3_rankOf : MethodName := ⟨RX3, "rankOf", "(I)I"⟩
def RX4 : String := "HiveBylaws$Refusals"
def TX4 : u_T := fun k => match k with
  | 0 => ("HiveBylaws$Refusals", "size", "I", false)
  | 1 => ("HiveBylaws$Refusals", "place", "[I", true)
  | 2 => ("HiveBylaws$Refusals", "doing", "[I", true)
  | 3 => ("HiveBylaws$Refusals", "kind", "[I", true)
  | _ => ("HiveBylaws$Refusals", "support", "[I", true)
def tyX4 : Nat → FieldType := fun k => match k with
  | 0 => .int
  | 1 => .array .int
  | 2 => .array .int
  | 3 => .array .int
  | _ => .array .int
abbrev wsX40 : List Cond := u_ws RX4 TX4 5
theorem nmX4 : ∀ a, a < 5 → ∀ b, b < 5 → a ≠ b → (TX4 a).2.1 ≠ (TX4 b).2.1 := by decide +kernel
theorem tyX4_ok : ∀ k, k < 5 → parseFieldDescriptor (TX4 k).2.2.1 = some (tyX4 k) := by decide +kernel
abbrev cX4_init : ByteArray := prog_6_method_1_code
def yX4_init : MethodName := ⟨RX4, "<init>", "()V"⟩
abbrev cX4_copyFrom : ByteArray := prog_6_method_2_code
def yX4_copyFrom : MethodName := ⟨RX4, "copyFrom", "(LHiveBylaws$Refusals;)V"⟩
abbrev cX4_add : ByteArray := prog_6_method_3_code
def yX4_add : MethodName := ⟨RX4, "add", "(LHiveBylaws$Petitions;I)V"⟩
abbrev cX4_greatestSupport : ByteArray := prog_6_method_4_code
def yX4_greatestSupport : MethodName := ⟨RX4, "greatestSupport", "(III)I"⟩
def RX5 : String := "HiveBylaws$State"
def TX5 : u_T := fun k => match k with
  | 0 => ("HiveBylaws$State", "swarm", "LHiveBylaws$Swarm;", true)
  | 1 => ("HiveBylaws$State", "laws", "LHiveBylaws$Laws;", true)
  | 2 => ("HiveBylaws$State", "petitions", "LHiveBylaws$Petitions;", true)
  | 3 => ("HiveBylaws$State", "refusals", "LHiveBylaws$Refusals;", true)
  | 4 => ("HiveBylaws$State", "setting", "[I", true)
  | 5 => ("HiveBylaws$State", "day", "I", false)
  | 6 => ("HiveBylaws$State", "season", "I", false)
  | 7 => ("HiveBylaws$State", "daysOfSeason", "I", false)
  | 8 => ("HiveBylaws$State", "repeals", "I", false)
  | _ => ("HiveBylaws$State", "verdict", "[I", true)
def tyX5 : Nat → FieldType := fun k => match k with
  | 0 => .object "HiveBylaws$Swarm"
  | 1 => .object "HiveBylaws$Laws"
  | 2 => .object "HiveBylaws$Petitions"
  | 3 => .object "HiveBylaws$Refusals"
  | 4 => .array .int
  | 5 => .int
  | 6 => .int
  | 7 => .int
  | 8 => .int
  | _ => .array .int
abbrev wsX50 : List Cond := u_ws RX5 TX5 10
theorem nmX5 : ∀ a, a < 10 → ∀ b, b < 10 → a ≠ b → (TX5 a).2.1 ≠ (TX5 b).2.1 := by decide +kernel
theorem tyX5_ok : ∀ k, k < 10 → parseFieldDescriptor (TX5 k).2.2.1 = some (tyX5 k) := by decide +kernel
abbrev cX5_init : ByteArray := prog_7_method_1_code
def yX5_init : MethodName := ⟨RX5, "<init>", "()V"⟩
abbrev cX5_copyFrom : ByteArray := prog_7_method_2_code
def yX5_copyFrom : MethodName := ⟨RX5, "copyFrom", "(LHiveBylaws$State;)V"⟩
abbrev cX5_addDrone : ByteArray := prog_7_method_3_code
def yX5_addDrone : MethodName := ⟨RX5, "addDrone", "(II)I"⟩
abbrev cX5_moveDrone : ByteArray := prog_7_method_4_code
def yX5_moveDrone : MethodName := ⟨RX5, "moveDrone", "(II)I"⟩
abbrev cX5_addPetition : ByteArray := prog_7_method_5_code
def yX5_addPetition : MethodName := ⟨RX5, "addPetition", "(IIII)I"⟩
abbrev cX5_addSeconder : ByteArray := prog_7_method_6_code
def yX5_addSeconder : MethodName := ⟨RX5, "addSeconder", "(II)I"⟩
abbrev cX5_endDays : ByteArray := prog_7_method_7_code
def yX5_endDays : MethodName := ⟨RX5, "endDays", "(I)I"⟩
abbrev cX5_changeSetting : ByteArray := prog_7_method_8_code
def yX5_changeSetting : MethodName := ⟨RX5, "changeSetting", "(II)I"⟩
abbrev cX5_endSeason : ByteArray := prog_7_method_9_code
def yX5_endSeason : MethodName := ⟨RX5, "endSeason", "()I"⟩
abbrev cX5_hearPetitions : ByteArray := prog_7_method_10_code
def yX5_hearPetitions : MethodName := ⟨RX5, "hearPetitions", "()I"⟩
abbrev cX5_reasonToRefuse : ByteArray := prog_7_method_11_code
def yX5_reasonToRefuse : MethodName := ⟨RX5, "reasonToRefuse", "(II)I"⟩
abbrev cX5_grant : ByteArray := prog_7_method_12_code
def yX5_grant : MethodName := ⟨RX5, "grant", "(I)V"⟩
def RX6 : String := "HiveBylaws$Swarm"
def TX6 : u_T := fun k => match k with
  | 0 => ("HiveBylaws$Swarm", "size", "I", false)
  | 1 => ("HiveBylaws$Swarm", "comb", "[I", true)
  | 2 => ("HiveBylaws$Swarm", "weight", "[I", true)
  | 3 => ("HiveBylaws$Swarm", "made", "[I", true)
  | 4 => ("HiveBylaws$Swarm", "passed", "[I", true)
  | _ => ("HiveBylaws$Swarm", "refused", "[I", true)
def tyX6 : Nat → FieldType := fun k => match k with
  | 0 => .int
  | 1 => .array .int
  | 2 => .array .int
  | 3 => .array .int
  | 4 => .array .int
  | _ => .array .int
abbrev wsX60 : List Cond := u_ws RX6 TX6 6
theorem nmX6 : ∀ a, a < 6 → ∀ b, b < 6 → a ≠ b → (TX6 a).2.1 ≠ (TX6 b).2.1 := by decide +kernel
theorem tyX6_ok : ∀ k, k < 6 → parseFieldDescriptor (TX6 k).2.2.1 = some (tyX6 k) := by decide +kernel
abbrev cX6_init : ByteArray := prog_8_method_1_code
def yX6_init : MethodName := ⟨RX6, "<init>", "()V"⟩
abbrev cX6_copyFrom : ByteArray := prog_8_method_2_code
def yX6_copyFrom : MethodName := ⟨RX6, "copyFrom", "(LHiveBylaws$Swarm;)V"⟩
abbrev cX6_knows : ByteArray := prog_8_method_3_code
def yX6_knows : MethodName := ⟨RX6, "knows", "(I)Z"⟩
abbrev cX6_add : ByteArray := prog_8_method_4_code
def yX6_add : MethodName := ⟨RX6, "add", "(II)I"⟩
abbrev cX6_weightAt : ByteArray := prog_8_method_5_code
def yX6_weightAt : MethodName := ⟨RX6, "weightAt", "(I)I"⟩
def RX7 : String := "HiveBylaws"
def TX7 : u_T := fun k => match k with
  | 0 => ("HiveBylaws", "state", "LHiveBylaws$State;", true)
  | 1 => ("HiveBylaws", "before", "LHiveBylaws$State;", true)
  | 2 => ("HiveBylaws", "trial", "LHiveBylaws$State;", true)
  | 3 => ("HiveBylaws", "snapshot", "LHiveBylaws$State;", true)
  | 4 => ("HiveBylaws", "hasSnapshot", "Z", false)
  | 5 => ("HiveBylaws", "history", "LHiveBylaws$History;", true)
  | 6 => ("HiveBylaws", "text", "LHiveBylaws$PetitionText;", true)
  | 7 => ("HiveBylaws", "stopNumber", "I", false)
  | _ => ("HiveBylaws", "stopError", "I", false)
def tyX7 : Nat → FieldType := fun k => match k with
  | 0 => .object "HiveBylaws$State"
  | 1 => .object "HiveBylaws$State"
  | 2 => .object "HiveBylaws$State"
  | 3 => .object "HiveBylaws$State"
  | 4 => .boolean
  | 5 => .object "HiveBylaws$History"
  | 6 => .object "HiveBylaws$PetitionText"
  | 7 => .int
  | _ => .int
abbrev wsX70 : List Cond := u_ws RX7 TX7 9
theorem nmX7 : ∀ a, a < 9 → ∀ b, b < 9 → a ≠ b → (TX7 a).2.1 ≠ (TX7 b).2.1 := by decide +kernel
theorem tyX7_ok : ∀ k, k < 9 → parseFieldDescriptor (TX7 k).2.2.1 = some (tyX7 k) := by decide +kernel
abbrev cX7_init : ByteArray := prog_1_method_1_code
def yX7_init : MethodName := ⟨RX7, "<init>", "()V"⟩
abbrev cX7_come : ByteArray := prog_1_method_2_code
def yX7_come : MethodName := ⟨RX7, "come", "(II)I"⟩
abbrev cX7_move : ByteArray := prog_1_method_3_code
def yX7_move : MethodName := ⟨RX7, "move", "(II)I"⟩
abbrev cX7_petition : ByteArray := prog_1_method_4_code
def yX7_petition : MethodName := ⟨RX7, "petition", "(IIII)I"⟩
abbrev cX7_second : ByteArray := prog_1_method_5_code
def yX7_second : MethodName := ⟨RX7, "second", "(II)I"⟩
abbrev cX7_pass : ByteArray := prog_1_method_6_code
def yX7_pass : MethodName := ⟨RX7, "pass", "(I)I"⟩
abbrev cX7_set : ByteArray := prog_1_method_7_code
def yX7_set : MethodName := ⟨RX7, "set", "(II)I"⟩
abbrev cX7_type : ByteArray := prog_1_method_8_code
def yX7_type : MethodName := ⟨RX7, "type", "(C)I"⟩
abbrev cX7_clearText : ByteArray := prog_1_method_9_code
def yX7_clearText : MethodName := ⟨RX7, "clearText", "()I"⟩
abbrev cX7_perform : ByteArray := prog_1_method_10_code
def yX7_perform : MethodName := ⟨RX7, "perform", "()I"⟩
abbrev cX7_stopped : ByteArray := prog_1_method_11_code
def yX7_stopped : MethodName := ⟨RX7, "stopped", "(I)I"⟩
abbrev cX7_undo : ByteArray := prog_1_method_12_code
def yX7_undo : MethodName := ⟨RX7, "undo", "()I"⟩
abbrev cX7_keep : ByteArray := prog_1_method_13_code
def yX7_keep : MethodName := ⟨RX7, "keep", "()I"⟩
abbrev cX7_restore : ByteArray := prog_1_method_14_code
def yX7_restore : MethodName := ⟨RX7, "restore", "()I"⟩
abbrev cX7_drone : ByteArray := prog_1_method_15_code
def yX7_drone : MethodName := ⟨RX7, "drone", "(II)I"⟩
abbrev cX7_bylaw : ByteArray := prog_1_method_16_code
def yX7_bylaw : MethodName := ⟨RX7, "bylaw", "(II)I"⟩
abbrev cX7_petitionOf : ByteArray := prog_1_method_17_code
def yX7_petitionOf : MethodName := ⟨RX7, "petitionOf", "(II)I"⟩
abbrev cX7_heard : ByteArray := prog_1_method_18_code
def yX7_heard : MethodName := ⟨RX7, "heard", "(I)I"⟩
abbrev cX7_rule : ByteArray := prog_1_method_19_code
def yX7_rule : MethodName := ⟨RX7, "rule", "(III)I"⟩
abbrev cX7_reason : ByteArray := prog_1_method_20_code
def yX7_reason : MethodName := ⟨RX7, "reason", "(I)I"⟩
abbrev cX7_wouldPass : ByteArray := prog_1_method_21_code
def yX7_wouldPass : MethodName := ⟨RX7, "wouldPass", "()I"⟩
abbrev cX7_lacks : ByteArray := prog_1_method_22_code
def yX7_lacks : MethodName := ⟨RX7, "lacks", "(I)I"⟩
abbrev cX7_free : ByteArray := prog_1_method_23_code
def yX7_free : MethodName := ⟨RX7, "free", "()I"⟩
abbrev cX7_oldest : ByteArray := prog_1_method_24_code
def yX7_oldest : MethodName := ⟨RX7, "oldest", "(II)I"⟩
abbrev cX7_count : ByteArray := prog_1_method_25_code
def yX7_count : MethodName := ⟨RX7, "count", "(I)I"⟩
abbrev cX7_isComb : ByteArray := prog_1_method_26_code
def yX7_isComb : MethodName := ⟨RX7, "isComb", "(I)Z"⟩
abbrev cX7_isPlace : ByteArray := prog_1_method_27_code
def yX7_isPlace : MethodName := ⟨RX7, "isPlace", "(I)Z"⟩
abbrev cX7_isDoing : ByteArray := prog_1_method_28_code
def yX7_isDoing : MethodName := ⟨RX7, "isDoing", "(I)Z"⟩
abbrev cX7_sum : ByteArray := prog_1_method_29_code
def yX7_sum : MethodName := ⟨RX7, "sum", "([I)I"⟩
abbrev cX7_recorded : ByteArray := prog_1_method_30_code
def yX7_recorded : MethodName := ⟨RX7, "recorded", "(I)I"⟩
abbrev cX7_doThing : ByteArray := prog_1_method_31_code
def yX7_doThing : MethodName := ⟨RX7, "doThing", "(I)I"⟩
def RX8 : String := "HiveBylawsModel"
def TX8 : u_T := fun k => match k with
  | 0 => ("HiveBylawsModel", "s", "[I", true)
  | 1 => ("HiveBylawsModel", "states", "I", false)
  | 2 => ("HiveBylawsModel", "isKept", "Z", false)
  | 3 => ("HiveBylawsModel", "text", "[I", true)
  | 4 => ("HiveBylawsModel", "typed", "I", false)
  | 5 => ("HiveBylawsModel", "stopNumber", "I", false)
  | 6 => ("HiveBylawsModel", "stopError", "I", false)
  | 7 => ("HiveBylawsModel", "order", "[I", true)
  | 8 => ("HiveBylawsModel", "reasons", "[I", true)
  | 9 => ("HiveBylawsModel", "spot", "I", false)
  | 10 => ("HiveBylawsModel", "letter", "I", false)
  | 11 => ("HiveBylawsModel", "one", "I", false)
  | 12 => ("HiveBylawsModel", "two", "I", false)
  | 13 => ("HiveBylawsModel", "three", "I", false)
  | _ => ("HiveBylawsModel", "four", "I", false)
def tyX8 : Nat → FieldType := fun k => match k with
  | 0 => .array .int
  | 1 => .int
  | 2 => .boolean
  | 3 => .array .int
  | 4 => .int
  | 5 => .int
  | 6 => .int
  | 7 => .array .int
  | 8 => .array .int
  | 9 => .int
  | 10 => .int
  | 11 => .int
  | 12 => .int
  | 13 => .int
  | _ => .int
abbrev wsX80 : List Cond := u_ws RX8 TX8 15
theorem nmX8 : ∀ a, a < 15 → ∀ b, b < 15 → a ≠ b → (TX8 a).2.1 ≠ (TX8 b).2.1 := by decide +kernel
theorem tyX8_ok : ∀ k, k < 15 → parseFieldDescriptor (TX8 k).2.2.1 = some (tyX8 k) := by decide +kernel
abbrev cX8_init : ByteArray := prog_10_method_1_code
def yX8_init : MethodName := ⟨RX8, "<init>", "()V"⟩
abbrev cX8_in : ByteArray := prog_10_method_3_code
def yX8_in : MethodName := ⟨RX8, "in", "(III)Z"⟩
abbrev cX8_flag : ByteArray := prog_10_method_4_code
def yX8_flag : MethodName := ⟨RX8, "flag", "(Z)I"⟩
abbrev cX8_copies : ByteArray := prog_10_method_5_code
def yX8_copies : MethodName := ⟨RX8, "copies", "(II)V"⟩
abbrev cX8_records : ByteArray := prog_10_method_6_code
def yX8_records : MethodName := ⟨RX8, "records", "(I)V"⟩
abbrev cX8_droneAt : ByteArray := prog_10_method_7_code
def yX8_droneAt : MethodName := ⟨RX8, "droneAt", "(II)I"⟩
abbrev cX8_petitionAt : ByteArray := prog_10_method_8_code
def yX8_petitionAt : MethodName := ⟨RX8, "petitionAt", "(II)I"⟩
abbrev cX8_bylawAt : ByteArray := prog_10_method_9_code
def yX8_bylawAt : MethodName := ⟨RX8, "bylawAt", "(III)I"⟩
abbrev cX8_support : ByteArray := prog_10_method_10_code
def yX8_support : MethodName := ⟨RX8, "support", "(II)I"⟩
abbrev cX8_weightAt : ByteArray := prog_10_method_11_code
def yX8_weightAt : MethodName := ⟨RX8, "weightAt", "(II)I"⟩
abbrev cX8_refusedWith : ByteArray := prog_10_method_12_code
def yX8_refusedWith : MethodName := ⟨RX8, "refusedWith", "(IIII)I"⟩
abbrev cX8_refusal : ByteArray := prog_10_method_13_code
def yX8_refusal : MethodName := ⟨RX8, "refusal", "(III)I"⟩
abbrev cX8_passes : ByteArray := prog_10_method_14_code
def yX8_passes : MethodName := ⟨RX8, "passes", "(III)V"⟩
abbrev cX8_sorts : ByteArray := prog_10_method_15_code
def yX8_sorts : MethodName := ⟨RX8, "sorts", "(I)V"⟩
abbrev cX8_hears : ByteArray := prog_10_method_16_code
def yX8_hears : MethodName := ⟨RX8, "hears", "(I)I"⟩
abbrev cX8_day : ByteArray := prog_10_method_17_code
def yX8_day : MethodName := ⟨RX8, "day", "(I)I"⟩
abbrev cX8_isDrone : ByteArray := prog_10_method_18_code
def yX8_isDrone : MethodName := ⟨RX8, "isDrone", "(I)Z"⟩
abbrev cX8_isPetition : ByteArray := prog_10_method_19_code
def yX8_isPetition : MethodName := ⟨RX8, "isPetition", "(I)Z"⟩
abbrev cX8_isDoing : ByteArray := prog_10_method_20_code
def yX8_isDoing : MethodName := ⟨RX8, "isDoing", "(I)Z"⟩
abbrev cX8_isComb : ByteArray := prog_10_method_21_code
def yX8_isComb : MethodName := ⟨RX8, "isComb", "(I)Z"⟩
abbrev cX8_comes : ByteArray := prog_10_method_22_code
def yX8_comes : MethodName := ⟨RX8, "comes", "(II)I"⟩
abbrev cX8_moves : ByteArray := prog_10_method_23_code
def yX8_moves : MethodName := ⟨RX8, "moves", "(II)I"⟩
abbrev cX8_petitions : ByteArray := prog_10_method_24_code
def yX8_petitions : MethodName := ⟨RX8, "petitions", "(IIII)I"⟩
abbrev cX8_seconds : ByteArray := prog_10_method_25_code
def yX8_seconds : MethodName := ⟨RX8, "seconds", "(II)I"⟩
abbrev cX8_ends : ByteArray := prog_10_method_26_code
def yX8_ends : MethodName := ⟨RX8, "ends", "(I)I"⟩
abbrev cX8_sets : ByteArray := prog_10_method_27_code
def yX8_sets : MethodName := ⟨RX8, "sets", "(II)I"⟩
abbrev cX8_done : ByteArray := prog_10_method_28_code
def yX8_done : MethodName := ⟨RX8, "done", "(I)I"⟩
abbrev cX8_come : ByteArray := prog_10_method_29_code
def yX8_come : MethodName := ⟨RX8, "come", "(II)I"⟩
abbrev cX8_move : ByteArray := prog_10_method_30_code
def yX8_move : MethodName := ⟨RX8, "move", "(II)I"⟩
abbrev cX8_petition : ByteArray := prog_10_method_31_code
def yX8_petition : MethodName := ⟨RX8, "petition", "(IIII)I"⟩
abbrev cX8_second : ByteArray := prog_10_method_32_code
def yX8_second : MethodName := ⟨RX8, "second", "(II)I"⟩
abbrev cX8_pass : ByteArray := prog_10_method_33_code
def yX8_pass : MethodName := ⟨RX8, "pass", "(I)I"⟩
abbrev cX8_set : ByteArray := prog_10_method_34_code
def yX8_set : MethodName := ⟨RX8, "set", "(II)I"⟩
abbrev cX8_type : ByteArray := prog_10_method_35_code
def yX8_type : MethodName := ⟨RX8, "type", "(C)I"⟩
abbrev cX8_clearText : ByteArray := prog_10_method_36_code
def yX8_clearText : MethodName := ⟨RX8, "clearText", "()I"⟩
abbrev cX8_isHere : ByteArray := prog_10_method_37_code
def yX8_isHere : MethodName := ⟨RX8, "isHere", "(II)Z"⟩
abbrev cX8_takes : ByteArray := prog_10_method_38_code
def yX8_takes : MethodName := ⟨RX8, "takes", "(I)Z"⟩
abbrev cX8_number : ByteArray := prog_10_method_39_code
def yX8_number : MethodName := ⟨RX8, "number", "(II)I"⟩
abbrev cX8_readsPetition : ByteArray := prog_10_method_40_code
def yX8_readsPetition : MethodName := ⟨RX8, "readsPetition", "()Z"⟩
abbrev cX8_readsThing : ByteArray := prog_10_method_41_code
def yX8_readsThing : MethodName := ⟨RX8, "readsThing", "()Z"⟩
abbrev cX8_fault : ByteArray := prog_10_method_42_code
def yX8_fault : MethodName := ⟨RX8, "fault", "()I"⟩
abbrev cX8_does : ByteArray := prog_10_method_43_code
def yX8_does : MethodName := ⟨RX8, "does", "()I"⟩
abbrev cX8_perform : ByteArray := prog_10_method_44_code
def yX8_perform : MethodName := ⟨RX8, "perform", "()I"⟩
abbrev cX8_stopped : ByteArray := prog_10_method_45_code
def yX8_stopped : MethodName := ⟨RX8, "stopped", "(I)I"⟩
abbrev cX8_undo : ByteArray := prog_10_method_46_code
def yX8_undo : MethodName := ⟨RX8, "undo", "()I"⟩
abbrev cX8_bylaws : ByteArray := prog_10_method_47_code
def yX8_bylaws : MethodName := ⟨RX8, "bylaws", "(Z)I"⟩
abbrev cX8_keep : ByteArray := prog_10_method_48_code
def yX8_keep : MethodName := ⟨RX8, "keep", "()I"⟩
abbrev cX8_restore : ByteArray := prog_10_method_49_code
def yX8_restore : MethodName := ⟨RX8, "restore", "()I"⟩
abbrev cX8_secondedBy : ByteArray := prog_10_method_50_code
def yX8_secondedBy : MethodName := ⟨RX8, "secondedBy", "(I)I"⟩
abbrev cX8_drone : ByteArray := prog_10_method_51_code
def yX8_drone : MethodName := ⟨RX8, "drone", "(II)I"⟩
abbrev cX8_ranked : ByteArray := prog_10_method_52_code
def yX8_ranked : MethodName := ⟨RX8, "ranked", "(I)I"⟩
abbrev cX8_rankOf : ByteArray := prog_10_method_53_code
def yX8_rankOf : MethodName := ⟨RX8, "rankOf", "(I)I"⟩
abbrev cX8_bylaw : ByteArray := prog_10_method_54_code
def yX8_bylaw : MethodName := ⟨RX8, "bylaw", "(II)I"⟩
abbrev cX8_petitionOf : ByteArray := prog_10_method_55_code
def yX8_petitionOf : MethodName := ⟨RX8, "petitionOf", "(II)I"⟩
abbrev cX8_heard : ByteArray := prog_10_method_56_code
def yX8_heard : MethodName := ⟨RX8, "heard", "(I)I"⟩
abbrev cX8_ruling : ByteArray := prog_10_method_57_code
def yX8_ruling : MethodName := ⟨RX8, "ruling", "(II)I"⟩
abbrev cX8_isAllowed : ByteArray := prog_10_method_58_code
def yX8_isAllowed : MethodName := ⟨RX8, "isAllowed", "(II)Z"⟩
abbrev cX8_rule : ByteArray := prog_10_method_59_code
def yX8_rule : MethodName := ⟨RX8, "rule", "(III)I"⟩
abbrev cX8_tries : ByteArray := prog_10_method_60_code
def yX8_tries : MethodName := ⟨RX8, "tries", "()V"⟩
abbrev cX8_reason : ByteArray := prog_10_method_61_code
def yX8_reason : MethodName := ⟨RX8, "reason", "(I)I"⟩
abbrev cX8_wouldPass : ByteArray := prog_10_method_62_code
def yX8_wouldPass : MethodName := ⟨RX8, "wouldPass", "()I"⟩
abbrev cX8_lacks : ByteArray := prog_10_method_63_code
def yX8_lacks : MethodName := ⟨RX8, "lacks", "(I)I"⟩
abbrev cX8_free : ByteArray := prog_10_method_64_code
def yX8_free : MethodName := ⟨RX8, "free", "()I"⟩
abbrev cX8_oldestAt : ByteArray := prog_10_method_65_code
def yX8_oldestAt : MethodName := ⟨RX8, "oldestAt", "(I)I"⟩
abbrev cX8_oldest : ByteArray := prog_10_method_66_code
def yX8_oldest : MethodName := ⟨RX8, "oldest", "(II)I"⟩
abbrev cX8_forbiddenAtCombs : ByteArray := prog_10_method_67_code
def yX8_forbiddenAtCombs : MethodName := ⟨RX8, "forbiddenAtCombs", "()I"⟩
abbrev cX8_count : ByteArray := prog_10_method_68_code
def yX8_count : MethodName := ⟨RX8, "count", "(I)I"⟩
def RJ10 : String := "java/lang/System"
def TJ10 : u_T := fun k => match k with
  | _ => ("", "", "", false)
def tyJ10 : Nat → FieldType := fun k => match k with
  | _ => .int
abbrev wsJ100 : List Cond := u_ws RJ10 TJ10 0
theorem nmJ10 : ∀ a, a < 0 → ∀ b, b < 0 → a ≠ b → (TJ10 a).2.1 ≠ (TJ10 b).2.1 := by decide +kernel
theorem tyJ10_ok : ∀ k, k < 0 → parseFieldDescriptor (TJ10 k).2.2.1 = some (tyJ10 k) := by decide +kernel
def RL : String := "HiveBylawsLaw"
abbrev cL_law : ByteArray := code
def yL_law : MethodName := ⟨RL, "law", "([I)Z"⟩
abbrev vwCl : List vw_C := [(RX0, TX0, 3), (RX1, TX1, 3), (RX2, TX2, 9), (RX3, TX3, 7), (RX4, TX4, 5), (RX5, TX5, 10), (RX6, TX6, 6), (RX7, TX7, 9), (RX8, TX8, 15)]
end
section
/-! the tables' words that go along to every method, and each word that a walk uses, by its place -/
def ws0 : List Cond := lw_tbl.filter goodWord
theorem ws0_tbl : ∀ w ∈ ws0, w ∈ lw_tbl := fun w h => (List.mem_filter.mp h).1
theorem ws0_self : GoodIn ws0 ws0 := fun w h => ⟨h, good_of_word (List.mem_filter.mp h).2⟩
theorem ws0_of {w : Cond} (h : w ∈ lw_tbl) (g : goodWord w = true) : w ∈ ws0 := List.mem_filter.mpr ⟨h, g⟩
theorem ws0_p {y : MethodName} {n : Nat} (h : (y, n) ∈ lw_privs) : Cond.selects y.cls y y ∈ ws0 := ws0_of (List.mem_append_left _ (List.mem_map.mpr ⟨(y, n), h, rfl⟩)) rfl
theorem ws0_1 {w : Cond} (h : w ∈ tables_1_1) (g : goodWord w = true) : w ∈ ws0 := ws0_of (List.mem_append_right _ (show w ∈ tables_1_1 ++ (tables_1_2 ++ (tables_1_3 ++ tables_1_4)) from (List.mem_append_left _ h))) g
theorem ws0_2 {w : Cond} (h : w ∈ tables_1_2) (g : goodWord w = true) : w ∈ ws0 := ws0_of (List.mem_append_right _ (show w ∈ tables_1_1 ++ (tables_1_2 ++ (tables_1_3 ++ tables_1_4)) from (List.mem_append_right _ (List.mem_append_left _ h)))) g
theorem ws0_3 {w : Cond} (h : w ∈ tables_1_3) (g : goodWord w = true) : w ∈ ws0 := ws0_of (List.mem_append_right _ (show w ∈ tables_1_1 ++ (tables_1_2 ++ (tables_1_3 ++ tables_1_4)) from (List.mem_append_right _ (List.mem_append_right _ (List.mem_append_left _ h))))) g
theorem ws0_4 {w : Cond} (h : w ∈ tables_1_4) (g : goodWord w = true) : w ∈ ws0 := ws0_of (List.mem_append_right _ (show w ∈ tables_1_1 ++ (tables_1_2 ++ (tables_1_3 ++ tables_1_4)) from (List.mem_append_right _ (List.mem_append_right _ (List.mem_append_right _ h))))) g
theorem ws0_q1 {q : MethodName × Nat} (h : q ∈ lw_privs_1) : q ∈ lw_privs := (show q ∈ lw_privs_1 ++ (lw_privs_2 ++ lw_privs_3) from (List.mem_append_left _ h))
theorem ws0_q2 {q : MethodName × Nat} (h : q ∈ lw_privs_2) : q ∈ lw_privs := (show q ∈ lw_privs_1 ++ (lw_privs_2 ++ lw_privs_3) from (List.mem_append_right _ (List.mem_append_left _ h)))
theorem ws0_q3 {q : MethodName × Nat} (h : q ∈ lw_privs_3) : q ∈ lw_privs := (show q ∈ lw_privs_1 ++ (lw_privs_2 ++ lw_privs_3) from (List.mem_append_right _ (List.mem_append_right _ h)))
theorem mw_0 : Cond.classLink RL 7 RX7 ∈ ws0 := ws0_1 (List.mem_of_getElem? (i := 11) rfl) rfl
theorem mw_1 : Cond.instantiable RX7 9 ∈ ws0 := ws0_1 (List.mem_of_getElem? (i := 12) rfl) rfl
theorem mw_2 : Cond.initialized RX7 ∈ ws0 := ws0_1 (List.mem_of_getElem? (i := 1) rfl) rfl
theorem mw_3 : Cond.classLink RL 10 RX8 ∈ ws0 := ws0_3 (List.mem_of_getElem? (i := 139) rfl) rfl
theorem mw_4 : Cond.instantiable RX8 15 ∈ ws0 := ws0_3 (List.mem_of_getElem? (i := 140) rfl) rfl
theorem mw_5 : Cond.initialized RX8 ∈ ws0 := ws0_1 (List.mem_of_getElem? (i := 9) rfl) rfl
theorem mw_6 : Cond.methodLink RL 9 yX7_init ∈ ws0 := ws0_1 (List.mem_of_getElem? (i := 13) rfl) rfl
theorem mw_7 : Cond.instanceMethod yX7_init ∈ ws0 := ws0_1 (List.mem_of_getElem? (i := 14) rfl) rfl
theorem mw_8 : Cond.code yX7_init cX7_init 1 none ∈ ws0 := ws0_1 (List.mem_of_getElem? (i := 15) rfl) rfl
theorem mw_9 : Cond.methodLink RX7 3 objectInit ∈ ws0 := ws0_1 (List.mem_of_getElem? (i := 16) rfl) rfl
theorem mw_10 : Cond.instanceMethod objectInit ∈ ws0 := ws0_1 (List.mem_of_getElem? (i := 17) rfl) rfl
theorem mw_11 : Cond.code objectInit ⟨#[0xb1]⟩ 1 none ∈ ws0 := ws0_1 (List.mem_of_getElem? (i := 18) rfl) rfl
theorem mw_12 : Cond.classLink RX7 9 RX5 ∈ ws0 := ws0_1 (List.mem_of_getElem? (i := 19) rfl) rfl
theorem mw_13 : Cond.instantiable RX5 10 ∈ ws0 := ws0_1 (List.mem_of_getElem? (i := 20) rfl) rfl
theorem mw_14 : Cond.initialized RX5 ∈ ws0 := ws0_1 (List.mem_of_getElem? (i := 2) rfl) rfl
theorem mw_15 : Cond.fieldLink RX7 12 "HiveBylaws" "state" "LHiveBylaws$State;" ∈ ws0 := ws0_2 (List.mem_of_getElem? (i := 16) rfl) rfl
theorem mw_16 : Cond.fieldLink RX7 16 "HiveBylaws" "before" "LHiveBylaws$State;" ∈ ws0 := ws0_2 (List.mem_of_getElem? (i := 17) rfl) rfl
theorem mw_17 : Cond.fieldLink RX7 19 "HiveBylaws" "trial" "LHiveBylaws$State;" ∈ ws0 := ws0_2 (List.mem_of_getElem? (i := 18) rfl) rfl
theorem mw_18 : Cond.fieldLink RX7 22 "HiveBylaws" "snapshot" "LHiveBylaws$State;" ∈ ws0 := ws0_2 (List.mem_of_getElem? (i := 19) rfl) rfl
theorem mw_19 : Cond.classLink RX7 25 RX0 ∈ ws0 := ws0_1 (List.mem_of_getElem? (i := 194) rfl) rfl
theorem mw_20 : Cond.instantiable RX0 3 ∈ ws0 := ws0_1 (List.mem_of_getElem? (i := 195) rfl) rfl
theorem mw_21 : Cond.initialized RX0 ∈ ws0 := ws0_1 (List.mem_of_getElem? (i := 7) rfl) rfl
theorem mw_22 : Cond.fieldLink RX7 28 "HiveBylaws" "history" "LHiveBylaws$History;" ∈ ws0 := ws0_2 (List.mem_of_getElem? (i := 21) rfl) rfl
theorem mw_23 : Cond.classLink RX7 32 RX2 ∈ ws0 := ws0_1 (List.mem_of_getElem? (i := 214) rfl) rfl
theorem mw_24 : Cond.instantiable RX2 9 ∈ ws0 := ws0_1 (List.mem_of_getElem? (i := 215) rfl) rfl
theorem mw_25 : Cond.initialized RX2 ∈ ws0 := ws0_1 (List.mem_of_getElem? (i := 8) rfl) rfl
theorem mw_26 : Cond.fieldLink RX7 35 "HiveBylaws" "text" "LHiveBylaws$PetitionText;" ∈ ws0 := ws0_2 (List.mem_of_getElem? (i := 22) rfl) rfl
theorem mw_27 : Cond.methodLink RX7 11 yX5_init ∈ ws0 := ws0_1 (List.mem_of_getElem? (i := 21) rfl) rfl
theorem mw_28 : Cond.instanceMethod yX5_init ∈ ws0 := ws0_1 (List.mem_of_getElem? (i := 22) rfl) rfl
theorem mw_29 : Cond.code yX5_init cX5_init 1 none ∈ ws0 := ws0_1 (List.mem_of_getElem? (i := 23) rfl) rfl
theorem mw_30 : Cond.methodLink RX5 3 objectInit ∈ ws0 := ws0_1 (List.mem_of_getElem? (i := 24) rfl) rfl
theorem mw_31 : Cond.classLink RX5 9 RX6 ∈ ws0 := ws0_1 (List.mem_of_getElem? (i := 25) rfl) rfl
theorem mw_32 : Cond.instantiable RX6 6 ∈ ws0 := ws0_1 (List.mem_of_getElem? (i := 26) rfl) rfl
theorem mw_33 : Cond.initialized RX6 ∈ ws0 := ws0_1 (List.mem_of_getElem? (i := 3) rfl) rfl
theorem mw_34 : Cond.fieldLink RX5 12 "HiveBylaws$State" "swarm" "LHiveBylaws$Swarm;" ∈ ws0 := ws0_1 (List.mem_of_getElem? (i := 154) rfl) rfl
theorem mw_35 : Cond.classLink RX5 18 RX1 ∈ ws0 := ws0_1 (List.mem_of_getElem? (i := 63) rfl) rfl
theorem mw_36 : Cond.instantiable RX1 3 ∈ ws0 := ws0_1 (List.mem_of_getElem? (i := 64) rfl) rfl
theorem mw_37 : Cond.initialized RX1 ∈ ws0 := ws0_1 (List.mem_of_getElem? (i := 4) rfl) rfl
theorem mw_38 : Cond.fieldLink RX5 21 "HiveBylaws$State" "laws" "LHiveBylaws$Laws;" ∈ ws0 := ws0_1 (List.mem_of_getElem? (i := 156) rfl) rfl
theorem mw_39 : Cond.classLink RX5 25 RX3 ∈ ws0 := ws0_1 (List.mem_of_getElem? (i := 85) rfl) rfl
theorem mw_40 : Cond.instantiable RX3 7 ∈ ws0 := ws0_1 (List.mem_of_getElem? (i := 86) rfl) rfl
theorem mw_41 : Cond.initialized RX3 ∈ ws0 := ws0_1 (List.mem_of_getElem? (i := 5) rfl) rfl
theorem mw_42 : Cond.fieldLink RX5 28 "HiveBylaws$State" "petitions" "LHiveBylaws$Petitions;" ∈ ws0 := ws0_1 (List.mem_of_getElem? (i := 158) rfl) rfl
theorem mw_43 : Cond.classLink RX5 32 RX4 ∈ ws0 := ws0_1 (List.mem_of_getElem? (i := 131) rfl) rfl
theorem mw_44 : Cond.instantiable RX4 5 ∈ ws0 := ws0_1 (List.mem_of_getElem? (i := 132) rfl) rfl
theorem mw_45 : Cond.initialized RX4 ∈ ws0 := ws0_1 (List.mem_of_getElem? (i := 6) rfl) rfl
theorem mw_46 : Cond.fieldLink RX5 35 "HiveBylaws$State" "refusals" "LHiveBylaws$Refusals;" ∈ ws0 := ws0_1 (List.mem_of_getElem? (i := 160) rfl) rfl
theorem mw_47 : Cond.arrayClass .int ∈ ws0 := ws0_1 (List.mem_of_getElem? (i := 62) rfl) rfl
theorem mw_48 : Cond.fieldLink RX5 39 "HiveBylaws$State" "setting" "[I" ∈ ws0 := ws0_1 (List.mem_of_getElem? (i := 161) rfl) rfl
theorem mw_49 : Cond.fieldLink RX5 43 "HiveBylaws$State" "verdict" "[I" ∈ ws0 := ws0_1 (List.mem_of_getElem? (i := 171) rfl) rfl
theorem mw_50 : Cond.methodLink RX5 11 yX6_init ∈ ws0 := ws0_1 (List.mem_of_getElem? (i := 27) rfl) rfl
theorem mw_51 : Cond.instanceMethod yX6_init ∈ ws0 := ws0_1 (List.mem_of_getElem? (i := 28) rfl) rfl
theorem mw_52 : Cond.code yX6_init cX6_init 1 none ∈ ws0 := ws0_1 (List.mem_of_getElem? (i := 29) rfl) rfl
theorem mw_53 : Cond.methodLink RX6 3 objectInit ∈ ws0 := ws0_1 (List.mem_of_getElem? (i := 30) rfl) rfl
theorem mw_54 : Cond.fieldLink RX6 9 "HiveBylaws$Swarm" "comb" "[I" ∈ ws0 := ws0_1 (List.mem_of_getElem? (i := 34) rfl) rfl
theorem mw_55 : Cond.fieldLink RX6 15 "HiveBylaws$Swarm" "weight" "[I" ∈ ws0 := ws0_1 (List.mem_of_getElem? (i := 37) rfl) rfl
theorem mw_56 : Cond.fieldLink RX6 18 "HiveBylaws$Swarm" "made" "[I" ∈ ws0 := ws0_1 (List.mem_of_getElem? (i := 40) rfl) rfl
theorem mw_57 : Cond.fieldLink RX6 21 "HiveBylaws$Swarm" "passed" "[I" ∈ ws0 := ws0_1 (List.mem_of_getElem? (i := 43) rfl) rfl
theorem mw_58 : Cond.fieldLink RX6 24 "HiveBylaws$Swarm" "refused" "[I" ∈ ws0 := ws0_1 (List.mem_of_getElem? (i := 46) rfl) rfl
theorem mw_59 : Cond.methodLink RX5 20 yX1_init ∈ ws0 := ws0_1 (List.mem_of_getElem? (i := 65) rfl) rfl
theorem mw_60 : Cond.instanceMethod yX1_init ∈ ws0 := ws0_1 (List.mem_of_getElem? (i := 66) rfl) rfl
theorem mw_61 : Cond.code yX1_init cX1_init 1 none ∈ ws0 := ws0_1 (List.mem_of_getElem? (i := 67) rfl) rfl
theorem mw_62 : Cond.methodLink RX1 3 objectInit ∈ ws0 := ws0_1 (List.mem_of_getElem? (i := 68) rfl) rfl
theorem mw_63 : Cond.fieldLink RX1 9 "HiveBylaws$Laws" "stance" "[I" ∈ ws0 := ws0_1 (List.mem_of_getElem? (i := 69) rfl) rfl
theorem mw_64 : Cond.fieldLink RX1 15 "HiveBylaws$Laws" "strength" "[I" ∈ ws0 := ws0_1 (List.mem_of_getElem? (i := 72) rfl) rfl
theorem mw_65 : Cond.fieldLink RX1 18 "HiveBylaws$Laws" "season" "[I" ∈ ws0 := ws0_1 (List.mem_of_getElem? (i := 75) rfl) rfl
theorem mw_66 : Cond.methodLink RX5 27 yX3_init ∈ ws0 := ws0_1 (List.mem_of_getElem? (i := 87) rfl) rfl
theorem mw_67 : Cond.instanceMethod yX3_init ∈ ws0 := ws0_1 (List.mem_of_getElem? (i := 88) rfl) rfl
theorem mw_68 : Cond.code yX3_init cX3_init 1 none ∈ ws0 := ws0_1 (List.mem_of_getElem? (i := 89) rfl) rfl
theorem mw_69 : Cond.methodLink RX3 3 objectInit ∈ ws0 := ws0_1 (List.mem_of_getElem? (i := 90) rfl) rfl
theorem mw_70 : Cond.fieldLink RX3 9 "HiveBylaws$Petitions" "drone" "[I" ∈ ws0 := ws0_1 (List.mem_of_getElem? (i := 94) rfl) rfl
theorem mw_71 : Cond.fieldLink RX3 15 "HiveBylaws$Petitions" "place" "[I" ∈ ws0 := ws0_1 (List.mem_of_getElem? (i := 97) rfl) rfl
theorem mw_72 : Cond.fieldLink RX3 18 "HiveBylaws$Petitions" "doing" "[I" ∈ ws0 := ws0_1 (List.mem_of_getElem? (i := 101) rfl) rfl
theorem mw_73 : Cond.fieldLink RX3 21 "HiveBylaws$Petitions" "kind" "[I" ∈ ws0 := ws0_1 (List.mem_of_getElem? (i := 105) rfl) rfl
theorem mw_74 : Cond.fieldLink RX3 24 "HiveBylaws$Petitions" "support" "[I" ∈ ws0 := ws0_1 (List.mem_of_getElem? (i := 109) rfl) rfl
theorem mw_75 : Cond.fieldLink RX3 27 "HiveBylaws$Petitions" "seconders" "[I" ∈ ws0 := ws0_1 (List.mem_of_getElem? (i := 113) rfl) rfl
theorem mw_76 : Cond.methodLink RX5 34 yX4_init ∈ ws0 := ws0_1 (List.mem_of_getElem? (i := 133) rfl) rfl
theorem mw_77 : Cond.instanceMethod yX4_init ∈ ws0 := ws0_1 (List.mem_of_getElem? (i := 134) rfl) rfl
theorem mw_78 : Cond.code yX4_init cX4_init 1 none ∈ ws0 := ws0_1 (List.mem_of_getElem? (i := 135) rfl) rfl
theorem mw_79 : Cond.methodLink RX4 3 objectInit ∈ ws0 := ws0_1 (List.mem_of_getElem? (i := 136) rfl) rfl
theorem mw_80 : Cond.fieldLink RX4 9 "HiveBylaws$Refusals" "place" "[I" ∈ ws0 := ws0_1 (List.mem_of_getElem? (i := 139) rfl) rfl
theorem mw_81 : Cond.fieldLink RX4 15 "HiveBylaws$Refusals" "doing" "[I" ∈ ws0 := ws0_1 (List.mem_of_getElem? (i := 140) rfl) rfl
theorem mw_82 : Cond.fieldLink RX4 18 "HiveBylaws$Refusals" "kind" "[I" ∈ ws0 := ws0_1 (List.mem_of_getElem? (i := 141) rfl) rfl
theorem mw_83 : Cond.fieldLink RX4 21 "HiveBylaws$Refusals" "support" "[I" ∈ ws0 := ws0_1 (List.mem_of_getElem? (i := 142) rfl) rfl
theorem mw_84 : Cond.methodLink RX7 27 yX0_init ∈ ws0 := ws0_1 (List.mem_of_getElem? (i := 196) rfl) rfl
theorem mw_85 : Cond.instanceMethod yX0_init ∈ ws0 := ws0_1 (List.mem_of_getElem? (i := 197) rfl) rfl
theorem mw_86 : Cond.code yX0_init cX0_init 2 none ∈ ws0 := ws0_1 (List.mem_of_getElem? (i := 198) rfl) rfl
theorem mw_87 : Cond.methodLink RX0 3 objectInit ∈ ws0 := ws0_1 (List.mem_of_getElem? (i := 199) rfl) rfl
theorem mw_88 : Cond.classLink RX0 9 RX5 ∈ ws0 := ws0_1 (List.mem_of_getElem? (i := 200) rfl) rfl
theorem mw_89 : Cond.fieldLink RX0 11 "HiveBylaws$History" "ring" "[LHiveBylaws$State;" ∈ ws0 := ws0_1 (List.mem_of_getElem? (i := 203) rfl) rfl
theorem mw_90 : Cond.methodLink RX0 17 yX5_init ∈ ws0 := ws0_1 (List.mem_of_getElem? (i := 202) rfl) rfl
theorem mw_91 : Cond.methodLink RX7 34 yX2_init ∈ ws0 := ws0_1 (List.mem_of_getElem? (i := 216) rfl) rfl
theorem mw_92 : Cond.instanceMethod yX2_init ∈ ws0 := ws0_1 (List.mem_of_getElem? (i := 217) rfl) rfl
theorem mw_93 : Cond.code yX2_init cX2_init 1 none ∈ ws0 := ws0_1 (List.mem_of_getElem? (i := 218) rfl) rfl
theorem mw_94 : Cond.methodLink RX2 3 objectInit ∈ ws0 := ws0_1 (List.mem_of_getElem? (i := 219) rfl) rfl
theorem mw_95 : Cond.arrayClass .char ∈ ws0 := ws0_2 (List.mem_of_getElem? (i := 15) rfl) rfl
theorem mw_96 : Cond.fieldLink RX2 9 "HiveBylaws$PetitionText" "characters" "[C" ∈ ws0 := ws0_1 (List.mem_of_getElem? (i := 220) rfl) rfl
theorem mw_97 : Cond.fieldLink RX2 15 "HiveBylaws$PetitionText" "act" "[I" ∈ ws0 := ws0_1 (List.mem_of_getElem? (i := 226) rfl) rfl
theorem mw_98 : Cond.fieldLink RX2 19 "HiveBylaws$PetitionText" "drone" "[I" ∈ ws0 := ws0_1 (List.mem_of_getElem? (i := 228) rfl) rfl
theorem mw_99 : Cond.fieldLink RX2 22 "HiveBylaws$PetitionText" "number" "[I" ∈ ws0 := ws0_1 (List.mem_of_getElem? (i := 230) rfl) rfl
theorem mw_100 : Cond.fieldLink RX2 25 "HiveBylaws$PetitionText" "doing" "[I" ∈ ws0 := ws0_1 (List.mem_of_getElem? (i := 232) rfl) rfl
theorem mw_101 : Cond.fieldLink RX2 28 "HiveBylaws$PetitionText" "kind" "[I" ∈ ws0 := ws0_1 (List.mem_of_getElem? (i := 234) rfl) rfl
theorem mw_102 : Cond.methodLink RL 12 yX8_init ∈ ws0 := ws0_3 (List.mem_of_getElem? (i := 141) rfl) rfl
theorem mw_103 : Cond.instanceMethod yX8_init ∈ ws0 := ws0_3 (List.mem_of_getElem? (i := 142) rfl) rfl
theorem mw_104 : Cond.code yX8_init cX8_init 2 none ∈ ws0 := ws0_3 (List.mem_of_getElem? (i := 143) rfl) rfl
theorem mw_105 : Cond.methodLink RX8 1 objectInit ∈ ws0 := ws0_3 (List.mem_of_getElem? (i := 144) rfl) rfl
theorem mw_106 : Cond.fieldLink RX8 7 "HiveBylawsModel" "s" "[I" ∈ ws0 := ws0_3 (List.mem_of_getElem? (i := 145) rfl) rfl
theorem mw_107 : Cond.fieldLink RX8 13 "HiveBylawsModel" "text" "[I" ∈ ws0 := ws0_3 (List.mem_of_getElem? (i := 148) rfl) rfl
theorem mw_108 : Cond.fieldLink RX8 16 "HiveBylawsModel" "stopNumber" "I" ∈ ws0 := ws0_3 (List.mem_of_getElem? (i := 150) rfl) rfl
theorem mw_109 : Cond.fieldLink RX8 20 "HiveBylawsModel" "stopError" "I" ∈ ws0 := ws0_3 (List.mem_of_getElem? (i := 151) rfl) rfl
theorem mw_110 : Cond.fieldLink RX8 23 "HiveBylawsModel" "order" "[I" ∈ ws0 := ws0_3 (List.mem_of_getElem? (i := 152) rfl) rfl
theorem mw_111 : Cond.fieldLink RX8 26 "HiveBylawsModel" "reasons" "[I" ∈ ws0 := ws0_3 (List.mem_of_getElem? (i := 153) rfl) rfl
theorem mw_112 : Cond.methodLink RL 13 yX7_come ∈ ws0 := ws0_2 (List.mem_of_getElem? (i := 44) rfl) rfl
theorem mw_113 : Cond.instanceMethod yX7_come ∈ ws0 := ws0_2 (List.mem_of_getElem? (i := 45) rfl) rfl
theorem mw_114 : Cond.selects RX7 yX7_come yX7_come ∈ ws0 := ws0_2 (List.mem_of_getElem? (i := 46) rfl) rfl
theorem mw_115 : Cond.code yX7_come cX7_come 3 (some .int) ∈ ws0 := ws0_2 (List.mem_of_getElem? (i := 47) rfl) rfl
theorem mw_116 : Cond.methodLink RX7 39 yX5_copyFrom ∈ ws0 := ws0_2 (List.mem_of_getElem? (i := 48) rfl) rfl
theorem mw_117 : Cond.instanceMethod yX5_copyFrom ∈ ws0 := ws0_2 (List.mem_of_getElem? (i := 49) rfl) rfl
theorem mw_118 : Cond.selects RX5 yX5_copyFrom yX5_copyFrom ∈ ws0 := ws0_2 (List.mem_of_getElem? (i := 50) rfl) rfl
theorem mw_119 : Cond.code yX5_copyFrom cX5_copyFrom 2 none ∈ ws0 := ws0_2 (List.mem_of_getElem? (i := 51) rfl) rfl
theorem mw_120 : Cond.fieldLink RX5 59 "HiveBylaws$State" "day" "I" ∈ ws0 := ws0_1 (List.mem_of_getElem? (i := 163) rfl) rfl
theorem mw_121 : Cond.fieldLink RX5 63 "HiveBylaws$State" "season" "I" ∈ ws0 := ws0_1 (List.mem_of_getElem? (i := 165) rfl) rfl
theorem mw_122 : Cond.fieldLink RX5 66 "HiveBylaws$State" "daysOfSeason" "I" ∈ ws0 := ws0_1 (List.mem_of_getElem? (i := 167) rfl) rfl
theorem mw_123 : Cond.fieldLink RX5 69 "HiveBylaws$State" "repeals" "I" ∈ ws0 := ws0_1 (List.mem_of_getElem? (i := 169) rfl) rfl
theorem mw_124 : Cond.methodLink RX5 46 yX6_copyFrom ∈ ws0 := ws0_2 (List.mem_of_getElem? (i := 52) rfl) rfl
theorem mw_125 : Cond.instanceMethod yX6_copyFrom ∈ ws0 := ws0_2 (List.mem_of_getElem? (i := 53) rfl) rfl
theorem mw_126 : Cond.selects RX6 yX6_copyFrom yX6_copyFrom ∈ ws0 := ws0_2 (List.mem_of_getElem? (i := 54) rfl) rfl
theorem mw_127 : Cond.code yX6_copyFrom cX6_copyFrom 2 none ∈ ws0 := ws0_2 (List.mem_of_getElem? (i := 55) rfl) rfl
theorem mw_128 : Cond.fieldLink RX6 27 "HiveBylaws$Swarm" "size" "I" ∈ ws0 := ws0_1 (List.mem_of_getElem? (i := 31) rfl) rfl
theorem mw_129 : Cond.methodLink RX6 31 arraycopyName ∈ ws0 := ws0_2 (List.mem_of_getElem? (i := 56) rfl) rfl
theorem mw_130 : Cond.native arraycopyName ∈ ws0 := ws0_2 (List.mem_of_getElem? (i := 58) rfl) rfl
theorem mw_131 : Cond.static arraycopyName ∈ ws0 := ws0_2 (List.mem_of_getElem? (i := 57) rfl) rfl
theorem mw_132 : Cond.initialized "java/lang/System" ∈ ws0 := ws0_1 (List.mem_of_getElem? (i := 10) rfl) rfl
theorem mw_133 : Cond.methodLink RX5 50 yX1_copyFrom ∈ ws0 := ws0_2 (List.mem_of_getElem? (i := 59) rfl) rfl
theorem mw_134 : Cond.instanceMethod yX1_copyFrom ∈ ws0 := ws0_2 (List.mem_of_getElem? (i := 60) rfl) rfl
theorem mw_135 : Cond.selects RX1 yX1_copyFrom yX1_copyFrom ∈ ws0 := ws0_2 (List.mem_of_getElem? (i := 61) rfl) rfl
theorem mw_136 : Cond.code yX1_copyFrom cX1_copyFrom 2 none ∈ ws0 := ws0_2 (List.mem_of_getElem? (i := 62) rfl) rfl
theorem mw_137 : Cond.methodLink RX1 21 arraycopyName ∈ ws0 := ws0_2 (List.mem_of_getElem? (i := 63) rfl) rfl
theorem mw_138 : Cond.methodLink RX5 53 yX3_copyFrom ∈ ws0 := ws0_2 (List.mem_of_getElem? (i := 64) rfl) rfl
theorem mw_139 : Cond.instanceMethod yX3_copyFrom ∈ ws0 := ws0_2 (List.mem_of_getElem? (i := 65) rfl) rfl
theorem mw_140 : Cond.selects RX3 yX3_copyFrom yX3_copyFrom ∈ ws0 := ws0_2 (List.mem_of_getElem? (i := 66) rfl) rfl
theorem mw_141 : Cond.code yX3_copyFrom cX3_copyFrom 2 none ∈ ws0 := ws0_2 (List.mem_of_getElem? (i := 67) rfl) rfl
theorem mw_142 : Cond.fieldLink RX3 30 "HiveBylaws$Petitions" "size" "I" ∈ ws0 := ws0_1 (List.mem_of_getElem? (i := 91) rfl) rfl
theorem mw_143 : Cond.methodLink RX3 34 arraycopyName ∈ ws0 := ws0_2 (List.mem_of_getElem? (i := 68) rfl) rfl
theorem mw_144 : Cond.methodLink RX5 56 yX4_copyFrom ∈ ws0 := ws0_2 (List.mem_of_getElem? (i := 69) rfl) rfl
theorem mw_145 : Cond.instanceMethod yX4_copyFrom ∈ ws0 := ws0_2 (List.mem_of_getElem? (i := 70) rfl) rfl
theorem mw_146 : Cond.selects RX4 yX4_copyFrom yX4_copyFrom ∈ ws0 := ws0_2 (List.mem_of_getElem? (i := 71) rfl) rfl
theorem mw_147 : Cond.code yX4_copyFrom cX4_copyFrom 2 none ∈ ws0 := ws0_2 (List.mem_of_getElem? (i := 72) rfl) rfl
theorem mw_148 : Cond.fieldLink RX4 24 "HiveBylaws$Refusals" "size" "I" ∈ ws0 := ws0_1 (List.mem_of_getElem? (i := 137) rfl) rfl
theorem mw_149 : Cond.methodLink RX4 28 arraycopyName ∈ ws0 := ws0_2 (List.mem_of_getElem? (i := 73) rfl) rfl
theorem mw_150 : Cond.methodLink RX7 43 yX5_addDrone ∈ ws0 := ws0_2 (List.mem_of_getElem? (i := 74) rfl) rfl
theorem mw_151 : Cond.instanceMethod yX5_addDrone ∈ ws0 := ws0_2 (List.mem_of_getElem? (i := 75) rfl) rfl
theorem mw_152 : Cond.selects RX5 yX5_addDrone yX5_addDrone ∈ ws0 := ws0_2 (List.mem_of_getElem? (i := 76) rfl) rfl
theorem mw_153 : Cond.code yX5_addDrone cX5_addDrone 3 (some .int) ∈ ws0 := ws0_2 (List.mem_of_getElem? (i := 77) rfl) rfl
theorem mw_154 : Cond.fieldLink RX5 76 "HiveBylaws$Swarm" "size" "I" ∈ ws0 := ws0_1 (List.mem_of_getElem? (i := 32) rfl) rfl
theorem mw_155 : Cond.static yX7_isComb ∈ ws0 := ws0_2 (List.mem_of_getElem? (i := 79) rfl) rfl
theorem mw_156 : Cond.code yX7_isComb cX7_isComb 1 (some .boolean) ∈ ws0 := ws0_2 (List.mem_of_getElem? (i := 80) rfl) rfl
theorem mw_157 : Cond.methodLink RX5 79 yX6_add ∈ ws0 := ws0_2 (List.mem_of_getElem? (i := 81) rfl) rfl
theorem mw_158 : Cond.instanceMethod yX6_add ∈ ws0 := ws0_2 (List.mem_of_getElem? (i := 82) rfl) rfl
theorem mw_159 : Cond.selects RX6 yX6_add yX6_add ∈ ws0 := ws0_2 (List.mem_of_getElem? (i := 83) rfl) rfl
theorem mw_160 : Cond.code yX6_add cX6_add 3 (some .int) ∈ ws0 := ws0_2 (List.mem_of_getElem? (i := 84) rfl) rfl
theorem mw_161 : Cond.methodLink RX7 47 yX7_recorded ∈ ws0 := ws0_2 (List.mem_of_getElem? (i := 85) rfl) rfl
theorem mw_162 : Cond.instanceMethod yX7_recorded ∈ ws0 := ws0_2 (List.mem_of_getElem? (i := 87) rfl) rfl
theorem mw_163 : Cond.selects RX7 yX7_recorded yX7_recorded ∈ ws0 := ws0_p (n := 9) (ws0_q1 (List.mem_of_getElem? (i := 0) rfl))
theorem mw_164 : Cond.code yX7_recorded cX7_recorded 2 (some .int) ∈ ws0 := ws0_2 (List.mem_of_getElem? (i := 88) rfl) rfl
theorem mw_165 : Cond.methodLink RX7 250 yX0_remember ∈ ws0 := ws0_2 (List.mem_of_getElem? (i := 89) rfl) rfl
theorem mw_166 : Cond.instanceMethod yX0_remember ∈ ws0 := ws0_2 (List.mem_of_getElem? (i := 90) rfl) rfl
theorem mw_167 : Cond.selects RX0 yX0_remember yX0_remember ∈ ws0 := ws0_2 (List.mem_of_getElem? (i := 91) rfl) rfl
theorem mw_168 : Cond.code yX0_remember cX0_remember 2 none ∈ ws0 := ws0_2 (List.mem_of_getElem? (i := 92) rfl) rfl
theorem mw_169 : Cond.fieldLink RX0 18 "HiveBylaws$History" "size" "I" ∈ ws0 := ws0_1 (List.mem_of_getElem? (i := 205) rfl) rfl
theorem mw_170 : Cond.fieldLink RX0 22 "HiveBylaws$History" "first" "I" ∈ ws0 := ws0_1 (List.mem_of_getElem? (i := 204) rfl) rfl
theorem mw_171 : Cond.methodLink RX0 25 yX5_copyFrom ∈ ws0 := ws0_2 (List.mem_of_getElem? (i := 93) rfl) rfl
theorem mw_172 : Cond.methodLink RL 17 yX8_come ∈ ws0 := ws0_3 (List.mem_of_getElem? (i := 191) rfl) rfl
theorem mw_173 : Cond.instanceMethod yX8_come ∈ ws0 := ws0_3 (List.mem_of_getElem? (i := 192) rfl) rfl
theorem mw_174 : Cond.selects RX8 yX8_come yX8_come ∈ ws0 := ws0_3 (List.mem_of_getElem? (i := 193) rfl) rfl
theorem mw_175 : Cond.code yX8_come cX8_come 3 (some .int) ∈ ws0 := ws0_3 (List.mem_of_getElem? (i := 194) rfl) rfl
theorem mw_176 : Cond.methodLink RX8 32 yX8_copies ∈ ws0 := ws0_3 (List.mem_of_getElem? (i := 195) rfl) rfl
theorem mw_177 : Cond.instanceMethod yX8_copies ∈ ws0 := ws0_3 (List.mem_of_getElem? (i := 197) rfl) rfl
theorem mw_178 : Cond.selects RX8 yX8_copies yX8_copies ∈ ws0 := ws0_p (n := 15) (ws0_q1 (List.mem_of_getElem? (i := 12) rfl))
theorem mw_179 : Cond.code yX8_copies cX8_copies 4 none ∈ ws0 := ws0_3 (List.mem_of_getElem? (i := 198) rfl) rfl
theorem mw_180 : Cond.methodLink RX8 100 yX8_comes ∈ ws0 := ws0_3 (List.mem_of_getElem? (i := 199) rfl) rfl
theorem mw_181 : Cond.instanceMethod yX8_comes ∈ ws0 := ws0_3 (List.mem_of_getElem? (i := 201) rfl) rfl
theorem mw_182 : Cond.selects RX8 yX8_comes yX8_comes ∈ ws0 := ws0_p (n := 15) (ws0_q1 (List.mem_of_getElem? (i := 13) rfl))
theorem mw_183 : Cond.code yX8_comes cX8_comes 5 (some .int) ∈ ws0 := ws0_3 (List.mem_of_getElem? (i := 202) rfl) rfl
theorem mw_184 : Cond.methodLink RX8 80 yX8_isComb ∈ ws0 := ws0_3 (List.mem_of_getElem? (i := 203) rfl) rfl
theorem mw_185 : Cond.static yX8_isComb ∈ ws0 := ws0_3 (List.mem_of_getElem? (i := 204) rfl) rfl
theorem mw_186 : Cond.code yX8_isComb cX8_isComb 1 (some .boolean) ∈ ws0 := ws0_3 (List.mem_of_getElem? (i := 205) rfl) rfl
theorem mw_187 : Cond.methodLink RX8 76 yX8_in ∈ ws0 := ws0_3 (List.mem_of_getElem? (i := 206) rfl) rfl
theorem mw_188 : Cond.static yX8_in ∈ ws0 := ws0_3 (List.mem_of_getElem? (i := 207) rfl) rfl
theorem mw_189 : Cond.code yX8_in cX8_in 3 (some .boolean) ∈ ws0 := ws0_3 (List.mem_of_getElem? (i := 208) rfl) rfl
theorem mw_190 : Cond.methodLink RX8 40 yX8_droneAt ∈ ws0 := ws0_3 (List.mem_of_getElem? (i := 209) rfl) rfl
theorem mw_191 : Cond.static yX8_droneAt ∈ ws0 := ws0_3 (List.mem_of_getElem? (i := 210) rfl) rfl
theorem mw_192 : Cond.code yX8_droneAt cX8_droneAt 2 (some .int) ∈ ws0 := ws0_3 (List.mem_of_getElem? (i := 211) rfl) rfl
theorem mw_193 : Cond.methodLink RX8 103 yX8_done ∈ ws0 := ws0_3 (List.mem_of_getElem? (i := 212) rfl) rfl
theorem mw_194 : Cond.instanceMethod yX8_done ∈ ws0 := ws0_3 (List.mem_of_getElem? (i := 214) rfl) rfl
theorem mw_195 : Cond.selects RX8 yX8_done yX8_done ∈ ws0 := ws0_p (n := 15) (ws0_q1 (List.mem_of_getElem? (i := 14) rfl))
theorem mw_196 : Cond.code yX8_done cX8_done 2 (some .int) ∈ ws0 := ws0_3 (List.mem_of_getElem? (i := 215) rfl) rfl
theorem mw_197 : Cond.methodLink RX8 97 yX8_records ∈ ws0 := ws0_3 (List.mem_of_getElem? (i := 216) rfl) rfl
theorem mw_198 : Cond.instanceMethod yX8_records ∈ ws0 := ws0_3 (List.mem_of_getElem? (i := 218) rfl) rfl
theorem mw_199 : Cond.selects RX8 yX8_records yX8_records ∈ ws0 := ws0_p (n := 15) (ws0_q1 (List.mem_of_getElem? (i := 15) rfl))
theorem mw_200 : Cond.code yX8_records cX8_records 3 none ∈ ws0 := ws0_3 (List.mem_of_getElem? (i := 219) rfl) rfl
theorem mw_201 : Cond.fieldLink RX8 29 "HiveBylawsModel" "states" "I" ∈ ws0 := ws0_3 (List.mem_of_getElem? (i := 146) rfl) rfl
theorem mw_202 : Cond.methodLink RL 18 yX7_move ∈ ws0 := ws0_2 (List.mem_of_getElem? (i := 94) rfl) rfl
theorem mw_203 : Cond.instanceMethod yX7_move ∈ ws0 := ws0_2 (List.mem_of_getElem? (i := 95) rfl) rfl
theorem mw_204 : Cond.selects RX7 yX7_move yX7_move ∈ ws0 := ws0_2 (List.mem_of_getElem? (i := 96) rfl) rfl
theorem mw_205 : Cond.code yX7_move cX7_move 3 (some .int) ∈ ws0 := ws0_2 (List.mem_of_getElem? (i := 97) rfl) rfl
theorem mw_206 : Cond.methodLink RX7 51 yX5_moveDrone ∈ ws0 := ws0_2 (List.mem_of_getElem? (i := 98) rfl) rfl
theorem mw_207 : Cond.instanceMethod yX5_moveDrone ∈ ws0 := ws0_2 (List.mem_of_getElem? (i := 99) rfl) rfl
theorem mw_208 : Cond.selects RX5 yX5_moveDrone yX5_moveDrone ∈ ws0 := ws0_2 (List.mem_of_getElem? (i := 100) rfl) rfl
theorem mw_209 : Cond.code yX5_moveDrone cX5_moveDrone 4 (some .int) ∈ ws0 := ws0_2 (List.mem_of_getElem? (i := 101) rfl) rfl
theorem mw_210 : Cond.fieldLink RX5 86 "HiveBylaws$Swarm" "comb" "[I" ∈ ws0 := ws0_1 (List.mem_of_getElem? (i := 35) rfl) rfl
theorem mw_211 : Cond.methodLink RX5 83 yX6_knows ∈ ws0 := ws0_2 (List.mem_of_getElem? (i := 102) rfl) rfl
theorem mw_212 : Cond.instanceMethod yX6_knows ∈ ws0 := ws0_2 (List.mem_of_getElem? (i := 103) rfl) rfl
theorem mw_213 : Cond.selects RX6 yX6_knows yX6_knows ∈ ws0 := ws0_2 (List.mem_of_getElem? (i := 104) rfl) rfl
theorem mw_214 : Cond.code yX6_knows cX6_knows 2 (some .boolean) ∈ ws0 := ws0_2 (List.mem_of_getElem? (i := 105) rfl) rfl
theorem mw_215 : Cond.methodLink RL 21 yX8_move ∈ ws0 := ws0_3 (List.mem_of_getElem? (i := 220) rfl) rfl
theorem mw_216 : Cond.instanceMethod yX8_move ∈ ws0 := ws0_3 (List.mem_of_getElem? (i := 221) rfl) rfl
theorem mw_217 : Cond.selects RX8 yX8_move yX8_move ∈ ws0 := ws0_3 (List.mem_of_getElem? (i := 222) rfl) rfl
theorem mw_218 : Cond.code yX8_move cX8_move 3 (some .int) ∈ ws0 := ws0_3 (List.mem_of_getElem? (i := 223) rfl) rfl
theorem mw_219 : Cond.methodLink RX8 106 yX8_moves ∈ ws0 := ws0_3 (List.mem_of_getElem? (i := 224) rfl) rfl
theorem mw_220 : Cond.instanceMethod yX8_moves ∈ ws0 := ws0_3 (List.mem_of_getElem? (i := 226) rfl) rfl
theorem mw_221 : Cond.selects RX8 yX8_moves yX8_moves ∈ ws0 := ws0_p (n := 15) (ws0_q2 (List.mem_of_getElem? (i := 0) rfl))
theorem mw_222 : Cond.code yX8_moves cX8_moves 4 (some .int) ∈ ws0 := ws0_3 (List.mem_of_getElem? (i := 227) rfl) rfl
theorem mw_223 : Cond.methodLink RX8 84 yX8_isDrone ∈ ws0 := ws0_3 (List.mem_of_getElem? (i := 228) rfl) rfl
theorem mw_224 : Cond.instanceMethod yX8_isDrone ∈ ws0 := ws0_3 (List.mem_of_getElem? (i := 230) rfl) rfl
theorem mw_225 : Cond.selects RX8 yX8_isDrone yX8_isDrone ∈ ws0 := ws0_p (n := 15) (ws0_q2 (List.mem_of_getElem? (i := 1) rfl))
theorem mw_226 : Cond.code yX8_isDrone cX8_isDrone 2 (some .boolean) ∈ ws0 := ws0_3 (List.mem_of_getElem? (i := 231) rfl) rfl
theorem mw_227 : Cond.methodLink RL 22 yX7_petition ∈ ws0 := ws0_2 (List.mem_of_getElem? (i := 106) rfl) rfl
theorem mw_228 : Cond.instanceMethod yX7_petition ∈ ws0 := ws0_2 (List.mem_of_getElem? (i := 107) rfl) rfl
theorem mw_229 : Cond.selects RX7 yX7_petition yX7_petition ∈ ws0 := ws0_2 (List.mem_of_getElem? (i := 108) rfl) rfl
theorem mw_230 : Cond.code yX7_petition cX7_petition 5 (some .int) ∈ ws0 := ws0_2 (List.mem_of_getElem? (i := 109) rfl) rfl
theorem mw_231 : Cond.methodLink RX7 54 yX5_addPetition ∈ ws0 := ws0_2 (List.mem_of_getElem? (i := 110) rfl) rfl
theorem mw_232 : Cond.instanceMethod yX5_addPetition ∈ ws0 := ws0_2 (List.mem_of_getElem? (i := 111) rfl) rfl
theorem mw_233 : Cond.selects RX5 yX5_addPetition yX5_addPetition ∈ ws0 := ws0_2 (List.mem_of_getElem? (i := 112) rfl) rfl
theorem mw_234 : Cond.code yX5_addPetition cX5_addPetition 6 (some .int) ∈ ws0 := ws0_2 (List.mem_of_getElem? (i := 113) rfl) rfl
theorem mw_235 : Cond.fieldLink RX5 99 "HiveBylaws$Petitions" "size" "I" ∈ ws0 := ws0_1 (List.mem_of_getElem? (i := 92) rfl) rfl
theorem mw_236 : Cond.fieldLink RX5 100 "HiveBylaws$Swarm" "made" "[I" ∈ ws0 := ws0_1 (List.mem_of_getElem? (i := 41) rfl) rfl
theorem mw_237 : Cond.fieldLink RX5 103 "HiveBylaws$Swarm" "weight" "[I" ∈ ws0 := ws0_1 (List.mem_of_getElem? (i := 38) rfl) rfl
theorem mw_238 : Cond.static yX7_isPlace ∈ ws0 := ws0_2 (List.mem_of_getElem? (i := 115) rfl) rfl
theorem mw_239 : Cond.code yX7_isPlace cX7_isPlace 1 (some .boolean) ∈ ws0 := ws0_2 (List.mem_of_getElem? (i := 116) rfl) rfl
theorem mw_240 : Cond.static yX7_isDoing ∈ ws0 := ws0_2 (List.mem_of_getElem? (i := 118) rfl) rfl
theorem mw_241 : Cond.code yX7_isDoing cX7_isDoing 1 (some .boolean) ∈ ws0 := ws0_2 (List.mem_of_getElem? (i := 119) rfl) rfl
theorem mw_242 : Cond.methodLink RX5 95 yX3_madeBy ∈ ws0 := ws0_2 (List.mem_of_getElem? (i := 120) rfl) rfl
theorem mw_243 : Cond.instanceMethod yX3_madeBy ∈ ws0 := ws0_2 (List.mem_of_getElem? (i := 121) rfl) rfl
theorem mw_244 : Cond.selects RX3 yX3_madeBy yX3_madeBy ∈ ws0 := ws0_2 (List.mem_of_getElem? (i := 122) rfl) rfl
theorem mw_245 : Cond.code yX3_madeBy cX3_madeBy 3 (some .int) ∈ ws0 := ws0_2 (List.mem_of_getElem? (i := 123) rfl) rfl
theorem mw_246 : Cond.methodLink RX5 106 yX3_add ∈ ws0 := ws0_2 (List.mem_of_getElem? (i := 124) rfl) rfl
theorem mw_247 : Cond.instanceMethod yX3_add ∈ ws0 := ws0_2 (List.mem_of_getElem? (i := 125) rfl) rfl
theorem mw_248 : Cond.selects RX3 yX3_add yX3_add ∈ ws0 := ws0_2 (List.mem_of_getElem? (i := 126) rfl) rfl
theorem mw_249 : Cond.code yX3_add cX3_add 6 (some .int) ∈ ws0 := ws0_2 (List.mem_of_getElem? (i := 127) rfl) rfl
theorem mw_250 : Cond.methodLink RL 26 yX8_petition ∈ ws0 := ws0_3 (List.mem_of_getElem? (i := 232) rfl) rfl
theorem mw_251 : Cond.instanceMethod yX8_petition ∈ ws0 := ws0_3 (List.mem_of_getElem? (i := 233) rfl) rfl
theorem mw_252 : Cond.selects RX8 yX8_petition yX8_petition ∈ ws0 := ws0_3 (List.mem_of_getElem? (i := 234) rfl) rfl
theorem mw_253 : Cond.code yX8_petition cX8_petition 5 (some .int) ∈ ws0 := ws0_3 (List.mem_of_getElem? (i := 235) rfl) rfl
theorem mw_254 : Cond.methodLink RX8 109 yX8_petitions ∈ ws0 := ws0_3 (List.mem_of_getElem? (i := 236) rfl) rfl
theorem mw_255 : Cond.instanceMethod yX8_petitions ∈ ws0 := ws0_3 (List.mem_of_getElem? (i := 238) rfl) rfl
theorem mw_256 : Cond.selects RX8 yX8_petitions yX8_petitions ∈ ws0 := ws0_p (n := 15) (ws0_q2 (List.mem_of_getElem? (i := 2) rfl))
theorem mw_257 : Cond.code yX8_petitions cX8_petitions 7 (some .int) ∈ ws0 := ws0_3 (List.mem_of_getElem? (i := 239) rfl) rfl
theorem mw_258 : Cond.methodLink RX8 87 yX8_isDoing ∈ ws0 := ws0_4 (List.mem_of_getElem? (i := 0) rfl) rfl
theorem mw_259 : Cond.static yX8_isDoing ∈ ws0 := ws0_4 (List.mem_of_getElem? (i := 1) rfl) rfl
theorem mw_260 : Cond.code yX8_isDoing cX8_isDoing 1 (some .boolean) ∈ ws0 := ws0_4 (List.mem_of_getElem? (i := 2) rfl) rfl
theorem mw_261 : Cond.methodLink RX8 36 yX8_petitionAt ∈ ws0 := ws0_4 (List.mem_of_getElem? (i := 3) rfl) rfl
theorem mw_262 : Cond.static yX8_petitionAt ∈ ws0 := ws0_4 (List.mem_of_getElem? (i := 4) rfl) rfl
theorem mw_263 : Cond.code yX8_petitionAt cX8_petitionAt 2 (some .int) ∈ ws0 := ws0_4 (List.mem_of_getElem? (i := 5) rfl) rfl
theorem mw_264 : Cond.methodLink RL 27 yX7_second ∈ ws0 := ws0_2 (List.mem_of_getElem? (i := 128) rfl) rfl
theorem mw_265 : Cond.instanceMethod yX7_second ∈ ws0 := ws0_2 (List.mem_of_getElem? (i := 129) rfl) rfl
theorem mw_266 : Cond.selects RX7 yX7_second yX7_second ∈ ws0 := ws0_2 (List.mem_of_getElem? (i := 130) rfl) rfl
theorem mw_267 : Cond.code yX7_second cX7_second 3 (some .int) ∈ ws0 := ws0_2 (List.mem_of_getElem? (i := 131) rfl) rfl
theorem mw_268 : Cond.methodLink RX7 58 yX5_addSeconder ∈ ws0 := ws0_2 (List.mem_of_getElem? (i := 132) rfl) rfl
theorem mw_269 : Cond.instanceMethod yX5_addSeconder ∈ ws0 := ws0_2 (List.mem_of_getElem? (i := 133) rfl) rfl
theorem mw_270 : Cond.selects RX5 yX5_addSeconder yX5_addSeconder ∈ ws0 := ws0_2 (List.mem_of_getElem? (i := 134) rfl) rfl
theorem mw_271 : Cond.code yX5_addSeconder cX5_addSeconder 4 (some .int) ∈ ws0 := ws0_2 (List.mem_of_getElem? (i := 135) rfl) rfl
theorem mw_272 : Cond.fieldLink RX5 112 "HiveBylaws$Petitions" "drone" "[I" ∈ ws0 := ws0_1 (List.mem_of_getElem? (i := 95) rfl) rfl
theorem mw_273 : Cond.fieldLink RX5 115 "HiveBylaws$Petitions" "seconders" "[I" ∈ ws0 := ws0_1 (List.mem_of_getElem? (i := 114) rfl) rfl
theorem mw_274 : Cond.fieldLink RX5 118 "HiveBylaws$Petitions" "support" "[I" ∈ ws0 := ws0_1 (List.mem_of_getElem? (i := 111) rfl) rfl
theorem mw_275 : Cond.methodLink RX5 109 yX3_has ∈ ws0 := ws0_2 (List.mem_of_getElem? (i := 136) rfl) rfl
theorem mw_276 : Cond.instanceMethod yX3_has ∈ ws0 := ws0_2 (List.mem_of_getElem? (i := 137) rfl) rfl
theorem mw_277 : Cond.selects RX3 yX3_has yX3_has ∈ ws0 := ws0_2 (List.mem_of_getElem? (i := 138) rfl) rfl
theorem mw_278 : Cond.code yX3_has cX3_has 2 (some .boolean) ∈ ws0 := ws0_2 (List.mem_of_getElem? (i := 139) rfl) rfl
theorem mw_279 : Cond.methodLink RL 30 yX8_second ∈ ws0 := ws0_4 (List.mem_of_getElem? (i := 6) rfl) rfl
theorem mw_280 : Cond.instanceMethod yX8_second ∈ ws0 := ws0_4 (List.mem_of_getElem? (i := 7) rfl) rfl
theorem mw_281 : Cond.selects RX8 yX8_second yX8_second ∈ ws0 := ws0_4 (List.mem_of_getElem? (i := 8) rfl) rfl
theorem mw_282 : Cond.code yX8_second cX8_second 3 (some .int) ∈ ws0 := ws0_4 (List.mem_of_getElem? (i := 9) rfl) rfl
theorem mw_283 : Cond.methodLink RX8 112 yX8_seconds ∈ ws0 := ws0_4 (List.mem_of_getElem? (i := 10) rfl) rfl
theorem mw_284 : Cond.instanceMethod yX8_seconds ∈ ws0 := ws0_4 (List.mem_of_getElem? (i := 12) rfl) rfl
theorem mw_285 : Cond.selects RX8 yX8_seconds yX8_seconds ∈ ws0 := ws0_p (n := 15) (ws0_q2 (List.mem_of_getElem? (i := 3) rfl))
theorem mw_286 : Cond.code yX8_seconds cX8_seconds 4 (some .int) ∈ ws0 := ws0_4 (List.mem_of_getElem? (i := 13) rfl) rfl
theorem mw_287 : Cond.methodLink RX8 90 yX8_isPetition ∈ ws0 := ws0_4 (List.mem_of_getElem? (i := 14) rfl) rfl
theorem mw_288 : Cond.instanceMethod yX8_isPetition ∈ ws0 := ws0_4 (List.mem_of_getElem? (i := 16) rfl) rfl
theorem mw_289 : Cond.selects RX8 yX8_isPetition yX8_isPetition ∈ ws0 := ws0_p (n := 15) (ws0_q2 (List.mem_of_getElem? (i := 4) rfl))
theorem mw_290 : Cond.code yX8_isPetition cX8_isPetition 2 (some .boolean) ∈ ws0 := ws0_4 (List.mem_of_getElem? (i := 17) rfl) rfl
theorem mw_291 : Cond.methodLink RX8 58 yX8_support ∈ ws0 := ws0_4 (List.mem_of_getElem? (i := 18) rfl) rfl
theorem mw_292 : Cond.instanceMethod yX8_support ∈ ws0 := ws0_4 (List.mem_of_getElem? (i := 20) rfl) rfl
theorem mw_293 : Cond.selects RX8 yX8_support yX8_support ∈ ws0 := ws0_p (n := 15) (ws0_q2 (List.mem_of_getElem? (i := 5) rfl))
theorem mw_294 : Cond.code yX8_support cX8_support 6 (some .int) ∈ ws0 := ws0_4 (List.mem_of_getElem? (i := 21) rfl) rfl
theorem mw_295 : Cond.methodLink RL 31 yX7_pass ∈ ws0 := ws0_2 (List.mem_of_getElem? (i := 140) rfl) rfl
theorem mw_296 : Cond.instanceMethod yX7_pass ∈ ws0 := ws0_2 (List.mem_of_getElem? (i := 141) rfl) rfl
theorem mw_297 : Cond.selects RX7 yX7_pass yX7_pass ∈ ws0 := ws0_2 (List.mem_of_getElem? (i := 142) rfl) rfl
theorem mw_298 : Cond.code yX7_pass cX7_pass 2 (some .int) ∈ ws0 := ws0_2 (List.mem_of_getElem? (i := 143) rfl) rfl
theorem mw_299 : Cond.methodLink RX7 61 yX5_endDays ∈ ws0 := ws0_2 (List.mem_of_getElem? (i := 144) rfl) rfl
theorem mw_300 : Cond.instanceMethod yX5_endDays ∈ ws0 := ws0_2 (List.mem_of_getElem? (i := 145) rfl) rfl
theorem mw_301 : Cond.selects RX5 yX5_endDays yX5_endDays ∈ ws0 := ws0_2 (List.mem_of_getElem? (i := 146) rfl) rfl
theorem mw_302 : Cond.code yX5_endDays cX5_endDays 4 (some .int) ∈ ws0 := ws0_2 (List.mem_of_getElem? (i := 147) rfl) rfl
theorem mw_303 : Cond.constant RX5 121 (99999) ∈ ws0 := ws0_2 (List.mem_of_getElem? (i := 148) rfl) rfl
theorem mw_304 : Cond.methodLink RX5 122 yX5_endSeason ∈ ws0 := ws0_2 (List.mem_of_getElem? (i := 149) rfl) rfl
theorem mw_305 : Cond.instanceMethod yX5_endSeason ∈ ws0 := ws0_2 (List.mem_of_getElem? (i := 151) rfl) rfl
theorem mw_306 : Cond.selects RX5 yX5_endSeason yX5_endSeason ∈ ws0 := ws0_p (n := 10) (ws0_q1 (List.mem_of_getElem? (i := 1) rfl))
theorem mw_307 : Cond.code yX5_endSeason cX5_endSeason 4 (some .int) ∈ ws0 := ws0_2 (List.mem_of_getElem? (i := 152) rfl) rfl
theorem mw_308 : Cond.fieldLink RX5 129 "HiveBylaws$Refusals" "size" "I" ∈ ws0 := ws0_1 (List.mem_of_getElem? (i := 138) rfl) rfl
theorem mw_309 : Cond.fieldLink RX5 130 "HiveBylaws$Swarm" "passed" "[I" ∈ ws0 := ws0_1 (List.mem_of_getElem? (i := 44) rfl) rfl
theorem mw_310 : Cond.fieldLink RX5 133 "HiveBylaws$Swarm" "refused" "[I" ∈ ws0 := ws0_1 (List.mem_of_getElem? (i := 47) rfl) rfl
theorem mw_311 : Cond.methodLink RX5 126 yX5_hearPetitions ∈ ws0 := ws0_2 (List.mem_of_getElem? (i := 153) rfl) rfl
theorem mw_312 : Cond.instanceMethod yX5_hearPetitions ∈ ws0 := ws0_2 (List.mem_of_getElem? (i := 154) rfl) rfl
theorem mw_313 : Cond.selects RX5 yX5_hearPetitions yX5_hearPetitions ∈ ws0 := ws0_2 (List.mem_of_getElem? (i := 155) rfl) rfl
theorem mw_314 : Cond.code yX5_hearPetitions cX5_hearPetitions 5 (some .int) ∈ ws0 := ws0_2 (List.mem_of_getElem? (i := 156) rfl) rfl
theorem mw_315 : Cond.methodLink RX5 139 yX3_atRank ∈ ws0 := ws0_2 (List.mem_of_getElem? (i := 157) rfl) rfl
theorem mw_316 : Cond.instanceMethod yX3_atRank ∈ ws0 := ws0_2 (List.mem_of_getElem? (i := 158) rfl) rfl
theorem mw_317 : Cond.selects RX3 yX3_atRank yX3_atRank ∈ ws0 := ws0_2 (List.mem_of_getElem? (i := 159) rfl) rfl
theorem mw_318 : Cond.code yX3_atRank cX3_atRank 3 (some .int) ∈ ws0 := ws0_2 (List.mem_of_getElem? (i := 160) rfl) rfl
theorem mw_319 : Cond.methodLink RX3 40 yX3_rankOf ∈ ws0 := ws0_2 (List.mem_of_getElem? (i := 161) rfl) rfl
theorem mw_320 : Cond.instanceMethod yX3_rankOf ∈ ws0 := ws0_2 (List.mem_of_getElem? (i := 163) rfl) rfl
theorem mw_321 : Cond.selects RX3 yX3_rankOf yX3_rankOf ∈ ws0 := ws0_p (n := 7) (ws0_q1 (List.mem_of_getElem? (i := 2) rfl))
theorem mw_322 : Cond.code yX3_rankOf cX3_rankOf 6 (some .int) ∈ ws0 := ws0_2 (List.mem_of_getElem? (i := 164) rfl) rfl
theorem mw_323 : Cond.methodLink RX5 142 yX5_reasonToRefuse ∈ ws0 := ws0_2 (List.mem_of_getElem? (i := 165) rfl) rfl
theorem mw_324 : Cond.instanceMethod yX5_reasonToRefuse ∈ ws0 := ws0_2 (List.mem_of_getElem? (i := 166) rfl) rfl
theorem mw_325 : Cond.selects RX5 yX5_reasonToRefuse yX5_reasonToRefuse ∈ ws0 := ws0_2 (List.mem_of_getElem? (i := 167) rfl) rfl
theorem mw_326 : Cond.code yX5_reasonToRefuse cX5_reasonToRefuse 8 (some .int) ∈ ws0 := ws0_2 (List.mem_of_getElem? (i := 168) rfl) rfl
theorem mw_327 : Cond.fieldLink RX5 149 "HiveBylaws$Petitions" "place" "[I" ∈ ws0 := ws0_1 (List.mem_of_getElem? (i := 99) rfl) rfl
theorem mw_328 : Cond.fieldLink RX5 152 "HiveBylaws$Petitions" "doing" "[I" ∈ ws0 := ws0_1 (List.mem_of_getElem? (i := 103) rfl) rfl
theorem mw_329 : Cond.fieldLink RX5 155 "HiveBylaws$Petitions" "kind" "[I" ∈ ws0 := ws0_1 (List.mem_of_getElem? (i := 107) rfl) rfl
theorem mw_330 : Cond.methodLink RX5 158 yX4_greatestSupport ∈ ws0 := ws0_2 (List.mem_of_getElem? (i := 169) rfl) rfl
theorem mw_331 : Cond.instanceMethod yX4_greatestSupport ∈ ws0 := ws0_2 (List.mem_of_getElem? (i := 170) rfl) rfl
theorem mw_332 : Cond.selects RX4 yX4_greatestSupport yX4_greatestSupport ∈ ws0 := ws0_2 (List.mem_of_getElem? (i := 171) rfl) rfl
theorem mw_333 : Cond.code yX4_greatestSupport cX4_greatestSupport 7 (some .int) ∈ ws0 := ws0_2 (List.mem_of_getElem? (i := 172) rfl) rfl
theorem mw_334 : Cond.methodLink RX5 162 yX1_strengthOf ∈ ws0 := ws0_2 (List.mem_of_getElem? (i := 173) rfl) rfl
theorem mw_335 : Cond.instanceMethod yX1_strengthOf ∈ ws0 := ws0_2 (List.mem_of_getElem? (i := 174) rfl) rfl
theorem mw_336 : Cond.selects RX1 yX1_strengthOf yX1_strengthOf ∈ ws0 := ws0_2 (List.mem_of_getElem? (i := 175) rfl) rfl
theorem mw_337 : Cond.code yX1_strengthOf cX1_strengthOf 3 (some .int) ∈ ws0 := ws0_2 (List.mem_of_getElem? (i := 176) rfl) rfl
theorem mw_338 : Cond.methodLink RX5 165 yX6_weightAt ∈ ws0 := ws0_2 (List.mem_of_getElem? (i := 177) rfl) rfl
theorem mw_339 : Cond.instanceMethod yX6_weightAt ∈ ws0 := ws0_2 (List.mem_of_getElem? (i := 178) rfl) rfl
theorem mw_340 : Cond.selects RX6 yX6_weightAt yX6_weightAt ∈ ws0 := ws0_2 (List.mem_of_getElem? (i := 179) rfl) rfl
theorem mw_341 : Cond.code yX6_weightAt cX6_weightAt 4 (some .int) ∈ ws0 := ws0_2 (List.mem_of_getElem? (i := 180) rfl) rfl
theorem mw_342 : Cond.methodLink RX5 168 yX1_stanceOf ∈ ws0 := ws0_2 (List.mem_of_getElem? (i := 181) rfl) rfl
theorem mw_343 : Cond.instanceMethod yX1_stanceOf ∈ ws0 := ws0_2 (List.mem_of_getElem? (i := 182) rfl) rfl
theorem mw_344 : Cond.selects RX1 yX1_stanceOf yX1_stanceOf ∈ ws0 := ws0_2 (List.mem_of_getElem? (i := 183) rfl) rfl
theorem mw_345 : Cond.code yX1_stanceOf cX1_stanceOf 3 (some .int) ∈ ws0 := ws0_2 (List.mem_of_getElem? (i := 184) rfl) rfl
theorem mw_346 : Cond.methodLink RX5 145 yX5_grant ∈ ws0 := ws0_2 (List.mem_of_getElem? (i := 185) rfl) rfl
theorem mw_347 : Cond.instanceMethod yX5_grant ∈ ws0 := ws0_2 (List.mem_of_getElem? (i := 187) rfl) rfl
theorem mw_348 : Cond.selects RX5 yX5_grant yX5_grant ∈ ws0 := ws0_p (n := 10) (ws0_q1 (List.mem_of_getElem? (i := 3) rfl))
theorem mw_349 : Cond.code yX5_grant cX5_grant 3 none ∈ ws0 := ws0_2 (List.mem_of_getElem? (i := 188) rfl) rfl
theorem mw_350 : Cond.fieldLink RX5 171 "HiveBylaws$Laws" "strength" "[I" ∈ ws0 := ws0_1 (List.mem_of_getElem? (i := 73) rfl) rfl
theorem mw_351 : Cond.fieldLink RX5 174 "HiveBylaws$Laws" "stance" "[I" ∈ ws0 := ws0_1 (List.mem_of_getElem? (i := 70) rfl) rfl
theorem mw_352 : Cond.fieldLink RX5 177 "HiveBylaws$Laws" "season" "[I" ∈ ws0 := ws0_1 (List.mem_of_getElem? (i := 76) rfl) rfl
theorem mw_353 : Cond.methodLink RX5 136 yX4_add ∈ ws0 := ws0_2 (List.mem_of_getElem? (i := 189) rfl) rfl
theorem mw_354 : Cond.instanceMethod yX4_add ∈ ws0 := ws0_2 (List.mem_of_getElem? (i := 190) rfl) rfl
theorem mw_355 : Cond.selects RX4 yX4_add yX4_add ∈ ws0 := ws0_2 (List.mem_of_getElem? (i := 191) rfl) rfl
theorem mw_356 : Cond.code yX4_add cX4_add 3 none ∈ ws0 := ws0_2 (List.mem_of_getElem? (i := 192) rfl) rfl
theorem mw_357 : Cond.fieldLink RX4 34 "HiveBylaws$Petitions" "place" "[I" ∈ ws0 := ws0_1 (List.mem_of_getElem? (i := 98) rfl) rfl
theorem mw_358 : Cond.fieldLink RX4 37 "HiveBylaws$Petitions" "doing" "[I" ∈ ws0 := ws0_1 (List.mem_of_getElem? (i := 102) rfl) rfl
theorem mw_359 : Cond.fieldLink RX4 38 "HiveBylaws$Petitions" "kind" "[I" ∈ ws0 := ws0_1 (List.mem_of_getElem? (i := 106) rfl) rfl
theorem mw_360 : Cond.fieldLink RX4 39 "HiveBylaws$Petitions" "support" "[I" ∈ ws0 := ws0_1 (List.mem_of_getElem? (i := 110) rfl) rfl
theorem mw_361 : Cond.methodLink RL 35 yX8_pass ∈ ws0 := ws0_4 (List.mem_of_getElem? (i := 22) rfl) rfl
theorem mw_362 : Cond.instanceMethod yX8_pass ∈ ws0 := ws0_4 (List.mem_of_getElem? (i := 23) rfl) rfl
theorem mw_363 : Cond.selects RX8 yX8_pass yX8_pass ∈ ws0 := ws0_4 (List.mem_of_getElem? (i := 24) rfl) rfl
theorem mw_364 : Cond.code yX8_pass cX8_pass 2 (some .int) ∈ ws0 := ws0_4 (List.mem_of_getElem? (i := 25) rfl) rfl
theorem mw_365 : Cond.methodLink RX8 115 yX8_ends ∈ ws0 := ws0_4 (List.mem_of_getElem? (i := 26) rfl) rfl
theorem mw_366 : Cond.instanceMethod yX8_ends ∈ ws0 := ws0_4 (List.mem_of_getElem? (i := 28) rfl) rfl
theorem mw_367 : Cond.selects RX8 yX8_ends yX8_ends ∈ ws0 := ws0_p (n := 15) (ws0_q2 (List.mem_of_getElem? (i := 6) rfl))
theorem mw_368 : Cond.code yX8_ends cX8_ends 4 (some .int) ∈ ws0 := ws0_4 (List.mem_of_getElem? (i := 29) rfl) rfl
theorem mw_369 : Cond.constant RX8 93 (99999) ∈ ws0 := ws0_4 (List.mem_of_getElem? (i := 30) rfl) rfl
theorem mw_370 : Cond.methodLink RX8 94 yX8_day ∈ ws0 := ws0_4 (List.mem_of_getElem? (i := 31) rfl) rfl
theorem mw_371 : Cond.instanceMethod yX8_day ∈ ws0 := ws0_4 (List.mem_of_getElem? (i := 33) rfl) rfl
theorem mw_372 : Cond.selects RX8 yX8_day yX8_day ∈ ws0 := ws0_p (n := 15) (ws0_q2 (List.mem_of_getElem? (i := 7) rfl))
theorem mw_373 : Cond.code yX8_day cX8_day 4 (some .int) ∈ ws0 := ws0_4 (List.mem_of_getElem? (i := 34) rfl) rfl
theorem mw_374 : Cond.methodLink RX8 72 yX8_hears ∈ ws0 := ws0_4 (List.mem_of_getElem? (i := 35) rfl) rfl
theorem mw_375 : Cond.instanceMethod yX8_hears ∈ ws0 := ws0_4 (List.mem_of_getElem? (i := 37) rfl) rfl
theorem mw_376 : Cond.selects RX8 yX8_hears yX8_hears ∈ ws0 := ws0_p (n := 15) (ws0_q2 (List.mem_of_getElem? (i := 8) rfl))
theorem mw_377 : Cond.code yX8_hears cX8_hears 9 (some .int) ∈ ws0 := ws0_4 (List.mem_of_getElem? (i := 38) rfl) rfl
theorem mw_378 : Cond.methodLink RX8 61 yX8_sorts ∈ ws0 := ws0_4 (List.mem_of_getElem? (i := 39) rfl) rfl
theorem mw_379 : Cond.instanceMethod yX8_sorts ∈ ws0 := ws0_4 (List.mem_of_getElem? (i := 41) rfl) rfl
theorem mw_380 : Cond.selects RX8 yX8_sorts yX8_sorts ∈ ws0 := ws0_p (n := 15) (ws0_q2 (List.mem_of_getElem? (i := 9) rfl))
theorem mw_381 : Cond.code yX8_sorts cX8_sorts 4 none ∈ ws0 := ws0_4 (List.mem_of_getElem? (i := 42) rfl) rfl
theorem mw_382 : Cond.methodLink RX8 65 yX8_refusal ∈ ws0 := ws0_4 (List.mem_of_getElem? (i := 43) rfl) rfl
theorem mw_383 : Cond.instanceMethod yX8_refusal ∈ ws0 := ws0_4 (List.mem_of_getElem? (i := 45) rfl) rfl
theorem mw_384 : Cond.selects RX8 yX8_refusal yX8_refusal ∈ ws0 := ws0_p (n := 15) (ws0_q2 (List.mem_of_getElem? (i := 10) rfl))
theorem mw_385 : Cond.code yX8_refusal cX8_refusal 11 (some .int) ∈ ws0 := ws0_4 (List.mem_of_getElem? (i := 46) rfl) rfl
theorem mw_386 : Cond.methodLink RX8 43 yX8_bylawAt ∈ ws0 := ws0_4 (List.mem_of_getElem? (i := 47) rfl) rfl
theorem mw_387 : Cond.static yX8_bylawAt ∈ ws0 := ws0_4 (List.mem_of_getElem? (i := 48) rfl) rfl
theorem mw_388 : Cond.code yX8_bylawAt cX8_bylawAt 3 (some .int) ∈ ws0 := ws0_4 (List.mem_of_getElem? (i := 49) rfl) rfl
theorem mw_389 : Cond.methodLink RX8 47 yX8_refusedWith ∈ ws0 := ws0_4 (List.mem_of_getElem? (i := 50) rfl) rfl
theorem mw_390 : Cond.instanceMethod yX8_refusedWith ∈ ws0 := ws0_4 (List.mem_of_getElem? (i := 52) rfl) rfl
theorem mw_391 : Cond.selects RX8 yX8_refusedWith yX8_refusedWith ∈ ws0 := ws0_p (n := 15) (ws0_q2 (List.mem_of_getElem? (i := 11) rfl))
theorem mw_392 : Cond.code yX8_refusedWith cX8_refusedWith 9 (some .int) ∈ ws0 := ws0_4 (List.mem_of_getElem? (i := 53) rfl) rfl
theorem mw_393 : Cond.methodLink RX8 51 yX8_weightAt ∈ ws0 := ws0_4 (List.mem_of_getElem? (i := 54) rfl) rfl
theorem mw_394 : Cond.instanceMethod yX8_weightAt ∈ ws0 := ws0_4 (List.mem_of_getElem? (i := 56) rfl) rfl
theorem mw_395 : Cond.selects RX8 yX8_weightAt yX8_weightAt ∈ ws0 := ws0_p (n := 15) (ws0_q2 (List.mem_of_getElem? (i := 12) rfl))
theorem mw_396 : Cond.code yX8_weightAt cX8_weightAt 6 (some .int) ∈ ws0 := ws0_4 (List.mem_of_getElem? (i := 57) rfl) rfl
theorem mw_397 : Cond.methodLink RX8 68 yX8_passes ∈ ws0 := ws0_4 (List.mem_of_getElem? (i := 58) rfl) rfl
theorem mw_398 : Cond.instanceMethod yX8_passes ∈ ws0 := ws0_4 (List.mem_of_getElem? (i := 60) rfl) rfl
theorem mw_399 : Cond.selects RX8 yX8_passes yX8_passes ∈ ws0 := ws0_p (n := 15) (ws0_q2 (List.mem_of_getElem? (i := 13) rfl))
theorem mw_400 : Cond.code yX8_passes cX8_passes 7 none ∈ ws0 := ws0_4 (List.mem_of_getElem? (i := 61) rfl) rfl
theorem mw_401 : Cond.methodLink RX8 54 yX8_flag ∈ ws0 := ws0_4 (List.mem_of_getElem? (i := 62) rfl) rfl
theorem mw_402 : Cond.static yX8_flag ∈ ws0 := ws0_4 (List.mem_of_getElem? (i := 63) rfl) rfl
theorem mw_403 : Cond.code yX8_flag cX8_flag 1 (some .int) ∈ ws0 := ws0_4 (List.mem_of_getElem? (i := 64) rfl) rfl
theorem mw_404 : Cond.methodLink RL 36 yX7_set ∈ ws0 := ws0_2 (List.mem_of_getElem? (i := 193) rfl) rfl
theorem mw_405 : Cond.instanceMethod yX7_set ∈ ws0 := ws0_2 (List.mem_of_getElem? (i := 194) rfl) rfl
theorem mw_406 : Cond.selects RX7 yX7_set yX7_set ∈ ws0 := ws0_2 (List.mem_of_getElem? (i := 195) rfl) rfl
theorem mw_407 : Cond.code yX7_set cX7_set 3 (some .int) ∈ ws0 := ws0_2 (List.mem_of_getElem? (i := 196) rfl) rfl
theorem mw_408 : Cond.methodLink RX7 64 yX5_changeSetting ∈ ws0 := ws0_2 (List.mem_of_getElem? (i := 197) rfl) rfl
theorem mw_409 : Cond.instanceMethod yX5_changeSetting ∈ ws0 := ws0_2 (List.mem_of_getElem? (i := 198) rfl) rfl
theorem mw_410 : Cond.selects RX5 yX5_changeSetting yX5_changeSetting ∈ ws0 := ws0_2 (List.mem_of_getElem? (i := 199) rfl) rfl
theorem mw_411 : Cond.code yX5_changeSetting cX5_changeSetting 5 (some .int) ∈ ws0 := ws0_2 (List.mem_of_getElem? (i := 200) rfl) rfl
theorem mw_412 : Cond.methodLink RL 39 yX8_set ∈ ws0 := ws0_4 (List.mem_of_getElem? (i := 65) rfl) rfl
theorem mw_413 : Cond.instanceMethod yX8_set ∈ ws0 := ws0_4 (List.mem_of_getElem? (i := 66) rfl) rfl
theorem mw_414 : Cond.selects RX8 yX8_set yX8_set ∈ ws0 := ws0_4 (List.mem_of_getElem? (i := 67) rfl) rfl
theorem mw_415 : Cond.code yX8_set cX8_set 3 (some .int) ∈ ws0 := ws0_4 (List.mem_of_getElem? (i := 68) rfl) rfl
theorem mw_416 : Cond.methodLink RX8 118 yX8_sets ∈ ws0 := ws0_4 (List.mem_of_getElem? (i := 69) rfl) rfl
theorem mw_417 : Cond.instanceMethod yX8_sets ∈ ws0 := ws0_4 (List.mem_of_getElem? (i := 71) rfl) rfl
theorem mw_418 : Cond.selects RX8 yX8_sets yX8_sets ∈ ws0 := ws0_p (n := 15) (ws0_q2 (List.mem_of_getElem? (i := 14) rfl))
theorem mw_419 : Cond.code yX8_sets cX8_sets 4 (some .int) ∈ ws0 := ws0_4 (List.mem_of_getElem? (i := 72) rfl) rfl
theorem mw_420 : Cond.methodLink RL 40 yX7_type ∈ ws0 := ws0_2 (List.mem_of_getElem? (i := 201) rfl) rfl
theorem mw_421 : Cond.instanceMethod yX7_type ∈ ws0 := ws0_2 (List.mem_of_getElem? (i := 202) rfl) rfl
theorem mw_422 : Cond.selects RX7 yX7_type yX7_type ∈ ws0 := ws0_2 (List.mem_of_getElem? (i := 203) rfl) rfl
theorem mw_423 : Cond.code yX7_type cX7_type 2 (some .int) ∈ ws0 := ws0_2 (List.mem_of_getElem? (i := 204) rfl) rfl
theorem mw_424 : Cond.methodLink RX7 67 yX2_append ∈ ws0 := ws0_2 (List.mem_of_getElem? (i := 205) rfl) rfl
theorem mw_425 : Cond.instanceMethod yX2_append ∈ ws0 := ws0_2 (List.mem_of_getElem? (i := 206) rfl) rfl
theorem mw_426 : Cond.selects RX2 yX2_append yX2_append ∈ ws0 := ws0_2 (List.mem_of_getElem? (i := 207) rfl) rfl
theorem mw_427 : Cond.code yX2_append cX2_append 2 (some .int) ∈ ws0 := ws0_2 (List.mem_of_getElem? (i := 208) rfl) rfl
theorem mw_428 : Cond.fieldLink RX2 31 "HiveBylaws$PetitionText" "length" "I" ∈ ws0 := ws0_1 (List.mem_of_getElem? (i := 221) rfl) rfl
theorem mw_429 : Cond.methodLink RL 44 yX8_type ∈ ws0 := ws0_4 (List.mem_of_getElem? (i := 73) rfl) rfl
theorem mw_430 : Cond.instanceMethod yX8_type ∈ ws0 := ws0_4 (List.mem_of_getElem? (i := 74) rfl) rfl
theorem mw_431 : Cond.selects RX8 yX8_type yX8_type ∈ ws0 := ws0_4 (List.mem_of_getElem? (i := 75) rfl) rfl
theorem mw_432 : Cond.code yX8_type cX8_type 2 (some .int) ∈ ws0 := ws0_4 (List.mem_of_getElem? (i := 76) rfl) rfl
theorem mw_433 : Cond.fieldLink RX8 121 "HiveBylawsModel" "typed" "I" ∈ ws0 := ws0_3 (List.mem_of_getElem? (i := 149) rfl) rfl
theorem mw_434 : Cond.methodLink RL 45 yX7_clearText ∈ ws0 := ws0_2 (List.mem_of_getElem? (i := 209) rfl) rfl
theorem mw_435 : Cond.instanceMethod yX7_clearText ∈ ws0 := ws0_2 (List.mem_of_getElem? (i := 210) rfl) rfl
theorem mw_436 : Cond.selects RX7 yX7_clearText yX7_clearText ∈ ws0 := ws0_2 (List.mem_of_getElem? (i := 211) rfl) rfl
theorem mw_437 : Cond.code yX7_clearText cX7_clearText 1 (some .int) ∈ ws0 := ws0_2 (List.mem_of_getElem? (i := 212) rfl) rfl
theorem mw_438 : Cond.methodLink RX7 71 yX2_empty ∈ ws0 := ws0_2 (List.mem_of_getElem? (i := 213) rfl) rfl
theorem mw_439 : Cond.instanceMethod yX2_empty ∈ ws0 := ws0_2 (List.mem_of_getElem? (i := 214) rfl) rfl
theorem mw_440 : Cond.selects RX2 yX2_empty yX2_empty ∈ ws0 := ws0_2 (List.mem_of_getElem? (i := 215) rfl) rfl
theorem mw_441 : Cond.code yX2_empty cX2_empty 2 (some .int) ∈ ws0 := ws0_2 (List.mem_of_getElem? (i := 216) rfl) rfl
theorem mw_442 : Cond.methodLink RL 49 yX8_clearText ∈ ws0 := ws0_4 (List.mem_of_getElem? (i := 77) rfl) rfl
theorem mw_443 : Cond.instanceMethod yX8_clearText ∈ ws0 := ws0_4 (List.mem_of_getElem? (i := 78) rfl) rfl
theorem mw_444 : Cond.selects RX8 yX8_clearText yX8_clearText ∈ ws0 := ws0_4 (List.mem_of_getElem? (i := 79) rfl) rfl
theorem mw_445 : Cond.code yX8_clearText cX8_clearText 2 (some .int) ∈ ws0 := ws0_4 (List.mem_of_getElem? (i := 80) rfl) rfl
theorem mw_446 : Cond.methodLink RL 50 yX7_perform ∈ ws0 := ws0_2 (List.mem_of_getElem? (i := 217) rfl) rfl
theorem mw_447 : Cond.instanceMethod yX7_perform ∈ ws0 := ws0_2 (List.mem_of_getElem? (i := 218) rfl) rfl
theorem mw_448 : Cond.selects RX7 yX7_perform yX7_perform ∈ ws0 := ws0_2 (List.mem_of_getElem? (i := 219) rfl) rfl
theorem mw_449 : Cond.code yX7_perform cX7_perform 4 (some .int) ∈ ws0 := ws0_2 (List.mem_of_getElem? (i := 220) rfl) rfl
theorem mw_450 : Cond.fieldLink RX7 78 "HiveBylaws$PetitionText" "things" "I" ∈ ws0 := ws0_1 (List.mem_of_getElem? (i := 225) rfl) rfl
theorem mw_451 : Cond.fieldLink RX7 85 "HiveBylaws" "stopNumber" "I" ∈ ws0 := ws0_2 (List.mem_of_getElem? (i := 23) rfl) rfl
theorem mw_452 : Cond.fieldLink RX7 88 "HiveBylaws" "stopError" "I" ∈ ws0 := ws0_2 (List.mem_of_getElem? (i := 24) rfl) rfl
theorem mw_453 : Cond.methodLink RX7 75 yX2_read ∈ ws0 := ws0_2 (List.mem_of_getElem? (i := 221) rfl) rfl
theorem mw_454 : Cond.instanceMethod yX2_read ∈ ws0 := ws0_2 (List.mem_of_getElem? (i := 222) rfl) rfl
theorem mw_455 : Cond.selects RX2 yX2_read yX2_read ∈ ws0 := ws0_2 (List.mem_of_getElem? (i := 223) rfl) rfl
theorem mw_456 : Cond.code yX2_read cX2_read 1 (some .int) ∈ ws0 := ws0_2 (List.mem_of_getElem? (i := 224) rfl) rfl
theorem mw_457 : Cond.fieldLink RX2 35 "HiveBylaws$PetitionText" "at" "I" ∈ ws0 := ws0_1 (List.mem_of_getElem? (i := 223) rfl) rfl
theorem mw_458 : Cond.fieldLink RX2 38 "HiveBylaws$PetitionText" "things" "I" ∈ ws0 := ws0_1 (List.mem_of_getElem? (i := 224) rfl) rfl
theorem mw_459 : Cond.methodLink RX2 41 yX2_readThing ∈ ws0 := ws0_2 (List.mem_of_getElem? (i := 225) rfl) rfl
theorem mw_460 : Cond.instanceMethod yX2_readThing ∈ ws0 := ws0_2 (List.mem_of_getElem? (i := 227) rfl) rfl
theorem mw_461 : Cond.selects RX2 yX2_readThing yX2_readThing ∈ ws0 := ws0_p (n := 9) (ws0_q1 (List.mem_of_getElem? (i := 4) rfl))
theorem mw_462 : Cond.code yX2_readThing cX2_readThing 2 (some .boolean) ∈ ws0 := ws0_2 (List.mem_of_getElem? (i := 228) rfl) rfl
theorem mw_463 : Cond.methodLink RX2 45 yX2_skip ∈ ws0 := ws0_2 (List.mem_of_getElem? (i := 229) rfl) rfl
theorem mw_464 : Cond.instanceMethod yX2_skip ∈ ws0 := ws0_2 (List.mem_of_getElem? (i := 231) rfl) rfl
theorem mw_465 : Cond.selects RX2 yX2_skip yX2_skip ∈ ws0 := ws0_p (n := 9) (ws0_q1 (List.mem_of_getElem? (i := 5) rfl))
theorem mw_466 : Cond.code yX2_skip cX2_skip 2 (some .boolean) ∈ ws0 := ws0_2 (List.mem_of_getElem? (i := 232) rfl) rfl
theorem mw_467 : Cond.methodLink RX2 49 yX2_readPetition ∈ ws0 := ws0_2 (List.mem_of_getElem? (i := 233) rfl) rfl
theorem mw_468 : Cond.instanceMethod yX2_readPetition ∈ ws0 := ws0_2 (List.mem_of_getElem? (i := 235) rfl) rfl
theorem mw_469 : Cond.selects RX2 yX2_readPetition yX2_readPetition ∈ ws0 := ws0_p (n := 9) (ws0_q1 (List.mem_of_getElem? (i := 6) rfl))
theorem mw_470 : Cond.code yX2_readPetition cX2_readPetition 2 (some .boolean) ∈ ws0 := ws0_2 (List.mem_of_getElem? (i := 236) rfl) rfl
theorem mw_471 : Cond.methodLink RX2 55 yX2_readNumber ∈ ws0 := ws0_2 (List.mem_of_getElem? (i := 237) rfl) rfl
theorem mw_472 : Cond.instanceMethod yX2_readNumber ∈ ws0 := ws0_2 (List.mem_of_getElem? (i := 239) rfl) rfl
theorem mw_473 : Cond.selects RX2 yX2_readNumber yX2_readNumber ∈ ws0 := ws0_p (n := 9) (ws0_q1 (List.mem_of_getElem? (i := 7) rfl))
theorem mw_474 : Cond.code yX2_readNumber cX2_readNumber 5 (some .int) ∈ ws0 := ws0_3 (List.mem_of_getElem? (i := 0) rfl) rfl
theorem mw_475 : Cond.methodLink RX2 63 yX2_digitHere ∈ ws0 := ws0_3 (List.mem_of_getElem? (i := 1) rfl) rfl
theorem mw_476 : Cond.instanceMethod yX2_digitHere ∈ ws0 := ws0_3 (List.mem_of_getElem? (i := 3) rfl) rfl
theorem mw_477 : Cond.selects RX2 yX2_digitHere yX2_digitHere ∈ ws0 := ws0_p (n := 9) (ws0_q1 (List.mem_of_getElem? (i := 8) rfl))
theorem mw_478 : Cond.code yX2_digitHere cX2_digitHere 1 (some .int) ∈ ws0 := ws0_3 (List.mem_of_getElem? (i := 4) rfl) rfl
theorem mw_479 : Cond.methodLink RX2 59 yX2_readKind ∈ ws0 := ws0_3 (List.mem_of_getElem? (i := 5) rfl) rfl
theorem mw_480 : Cond.instanceMethod yX2_readKind ∈ ws0 := ws0_3 (List.mem_of_getElem? (i := 7) rfl) rfl
theorem mw_481 : Cond.selects RX2 yX2_readKind yX2_readKind ∈ ws0 := ws0_p (n := 9) (ws0_q1 (List.mem_of_getElem? (i := 9) rfl))
theorem mw_482 : Cond.code yX2_readKind cX2_readKind 1 (some .int) ∈ ws0 := ws0_3 (List.mem_of_getElem? (i := 8) rfl) rfl
theorem mw_483 : Cond.methodLink RX2 52 yX2_readSeconding ∈ ws0 := ws0_3 (List.mem_of_getElem? (i := 9) rfl) rfl
theorem mw_484 : Cond.instanceMethod yX2_readSeconding ∈ ws0 := ws0_3 (List.mem_of_getElem? (i := 11) rfl) rfl
theorem mw_485 : Cond.selects RX2 yX2_readSeconding yX2_readSeconding ∈ ws0 := ws0_p (n := 9) (ws0_q1 (List.mem_of_getElem? (i := 10) rfl))
theorem mw_486 : Cond.code yX2_readSeconding cX2_readSeconding 2 (some .boolean) ∈ ws0 := ws0_3 (List.mem_of_getElem? (i := 12) rfl) rfl
theorem mw_487 : Cond.methodLink RX7 82 yX7_doThing ∈ ws0 := ws0_3 (List.mem_of_getElem? (i := 13) rfl) rfl
theorem mw_488 : Cond.instanceMethod yX7_doThing ∈ ws0 := ws0_3 (List.mem_of_getElem? (i := 15) rfl) rfl
theorem mw_489 : Cond.selects RX7 yX7_doThing yX7_doThing ∈ ws0 := ws0_p (n := 9) (ws0_q1 (List.mem_of_getElem? (i := 11) rfl))
theorem mw_490 : Cond.code yX7_doThing cX7_doThing 2 (some .int) ∈ ws0 := ws0_3 (List.mem_of_getElem? (i := 16) rfl) rfl
theorem mw_491 : Cond.fieldLink RX7 253 "HiveBylaws$PetitionText" "act" "[I" ∈ ws0 := ws0_1 (List.mem_of_getElem? (i := 227) rfl) rfl
theorem mw_492 : Cond.fieldLink RX7 256 "HiveBylaws$PetitionText" "drone" "[I" ∈ ws0 := ws0_1 (List.mem_of_getElem? (i := 229) rfl) rfl
theorem mw_493 : Cond.fieldLink RX7 257 "HiveBylaws$PetitionText" "number" "[I" ∈ ws0 := ws0_1 (List.mem_of_getElem? (i := 231) rfl) rfl
theorem mw_494 : Cond.fieldLink RX7 260 "HiveBylaws$PetitionText" "doing" "[I" ∈ ws0 := ws0_1 (List.mem_of_getElem? (i := 233) rfl) rfl
theorem mw_495 : Cond.fieldLink RX7 261 "HiveBylaws$PetitionText" "kind" "[I" ∈ ws0 := ws0_1 (List.mem_of_getElem? (i := 235) rfl) rfl
theorem mw_496 : Cond.methodLink RL 53 yX8_perform ∈ ws0 := ws0_4 (List.mem_of_getElem? (i := 81) rfl) rfl
theorem mw_497 : Cond.instanceMethod yX8_perform ∈ ws0 := ws0_4 (List.mem_of_getElem? (i := 82) rfl) rfl
theorem mw_498 : Cond.selects RX8 yX8_perform yX8_perform ∈ ws0 := ws0_4 (List.mem_of_getElem? (i := 83) rfl) rfl
theorem mw_499 : Cond.code yX8_perform cX8_perform 6 (some .int) ∈ ws0 := ws0_4 (List.mem_of_getElem? (i := 84) rfl) rfl
theorem mw_500 : Cond.fieldLink RX8 124 "HiveBylawsModel" "spot" "I" ∈ ws0 := ws0_3 (List.mem_of_getElem? (i := 154) rfl) rfl
theorem mw_501 : Cond.methodLink RX8 159 yX8_fault ∈ ws0 := ws0_4 (List.mem_of_getElem? (i := 85) rfl) rfl
theorem mw_502 : Cond.instanceMethod yX8_fault ∈ ws0 := ws0_4 (List.mem_of_getElem? (i := 87) rfl) rfl
theorem mw_503 : Cond.selects RX8 yX8_fault yX8_fault ∈ ws0 := ws0_p (n := 15) (ws0_q2 (List.mem_of_getElem? (i := 15) rfl))
theorem mw_504 : Cond.code yX8_fault cX8_fault 2 (some .int) ∈ ws0 := ws0_4 (List.mem_of_getElem? (i := 88) rfl) rfl
theorem mw_505 : Cond.methodLink RX8 156 yX8_readsThing ∈ ws0 := ws0_4 (List.mem_of_getElem? (i := 89) rfl) rfl
theorem mw_506 : Cond.instanceMethod yX8_readsThing ∈ ws0 := ws0_4 (List.mem_of_getElem? (i := 91) rfl) rfl
theorem mw_507 : Cond.selects RX8 yX8_readsThing yX8_readsThing ∈ ws0 := ws0_p (n := 15) (ws0_q3 (List.mem_of_getElem? (i := 0) rfl))
theorem mw_508 : Cond.code yX8_readsThing cX8_readsThing 1 (some .boolean) ∈ ws0 := ws0_4 (List.mem_of_getElem? (i := 92) rfl) rfl
theorem mw_509 : Cond.fieldLink RX8 149 "HiveBylawsModel" "letter" "I" ∈ ws0 := ws0_3 (List.mem_of_getElem? (i := 155) rfl) rfl
theorem mw_510 : Cond.fieldLink RX8 134 "HiveBylawsModel" "one" "I" ∈ ws0 := ws0_3 (List.mem_of_getElem? (i := 156) rfl) rfl
theorem mw_511 : Cond.fieldLink RX8 140 "HiveBylawsModel" "two" "I" ∈ ws0 := ws0_3 (List.mem_of_getElem? (i := 157) rfl) rfl
theorem mw_512 : Cond.methodLink RX8 152 yX8_readsPetition ∈ ws0 := ws0_4 (List.mem_of_getElem? (i := 93) rfl) rfl
theorem mw_513 : Cond.instanceMethod yX8_readsPetition ∈ ws0 := ws0_4 (List.mem_of_getElem? (i := 95) rfl) rfl
theorem mw_514 : Cond.selects RX8 yX8_readsPetition yX8_readsPetition ∈ ws0 := ws0_p (n := 15) (ws0_q3 (List.mem_of_getElem? (i := 1) rfl))
theorem mw_515 : Cond.code yX8_readsPetition cX8_readsPetition 1 (some .boolean) ∈ ws0 := ws0_4 (List.mem_of_getElem? (i := 96) rfl) rfl
theorem mw_516 : Cond.fieldLink RX8 143 "HiveBylawsModel" "three" "I" ∈ ws0 := ws0_3 (List.mem_of_getElem? (i := 158) rfl) rfl
theorem mw_517 : Cond.fieldLink RX8 146 "HiveBylawsModel" "four" "I" ∈ ws0 := ws0_3 (List.mem_of_getElem? (i := 159) rfl) rfl
theorem mw_518 : Cond.methodLink RX8 131 yX8_number ∈ ws0 := ws0_4 (List.mem_of_getElem? (i := 97) rfl) rfl
theorem mw_519 : Cond.instanceMethod yX8_number ∈ ws0 := ws0_4 (List.mem_of_getElem? (i := 99) rfl) rfl
theorem mw_520 : Cond.selects RX8 yX8_number yX8_number ∈ ws0 := ws0_p (n := 15) (ws0_q3 (List.mem_of_getElem? (i := 2) rfl))
theorem mw_521 : Cond.code yX8_number cX8_number 5 (some .int) ∈ ws0 := ws0_4 (List.mem_of_getElem? (i := 100) rfl) rfl
theorem mw_522 : Cond.methodLink RX8 127 yX8_isHere ∈ ws0 := ws0_4 (List.mem_of_getElem? (i := 101) rfl) rfl
theorem mw_523 : Cond.instanceMethod yX8_isHere ∈ ws0 := ws0_4 (List.mem_of_getElem? (i := 103) rfl) rfl
theorem mw_524 : Cond.selects RX8 yX8_isHere yX8_isHere ∈ ws0 := ws0_p (n := 15) (ws0_q3 (List.mem_of_getElem? (i := 3) rfl))
theorem mw_525 : Cond.code yX8_isHere cX8_isHere 3 (some .boolean) ∈ ws0 := ws0_4 (List.mem_of_getElem? (i := 104) rfl) rfl
theorem mw_526 : Cond.methodLink RX8 137 yX8_takes ∈ ws0 := ws0_4 (List.mem_of_getElem? (i := 105) rfl) rfl
theorem mw_527 : Cond.instanceMethod yX8_takes ∈ ws0 := ws0_4 (List.mem_of_getElem? (i := 107) rfl) rfl
theorem mw_528 : Cond.selects RX8 yX8_takes yX8_takes ∈ ws0 := ws0_p (n := 15) (ws0_q3 (List.mem_of_getElem? (i := 4) rfl))
theorem mw_529 : Cond.code yX8_takes cX8_takes 3 (some .boolean) ∈ ws0 := ws0_4 (List.mem_of_getElem? (i := 108) rfl) rfl
theorem mw_530 : Cond.methodLink RX8 163 yX8_does ∈ ws0 := ws0_4 (List.mem_of_getElem? (i := 109) rfl) rfl
theorem mw_531 : Cond.instanceMethod yX8_does ∈ ws0 := ws0_4 (List.mem_of_getElem? (i := 111) rfl) rfl
theorem mw_532 : Cond.selects RX8 yX8_does yX8_does ∈ ws0 := ws0_p (n := 15) (ws0_q3 (List.mem_of_getElem? (i := 5) rfl))
theorem mw_533 : Cond.code yX8_does cX8_does 1 (some .int) ∈ ws0 := ws0_4 (List.mem_of_getElem? (i := 112) rfl) rfl
theorem mw_534 : Cond.methodLink RL 54 yX7_stopped ∈ ws0 := ws0_3 (List.mem_of_getElem? (i := 17) rfl) rfl
theorem mw_535 : Cond.instanceMethod yX7_stopped ∈ ws0 := ws0_3 (List.mem_of_getElem? (i := 18) rfl) rfl
theorem mw_536 : Cond.selects RX7 yX7_stopped yX7_stopped ∈ ws0 := ws0_3 (List.mem_of_getElem? (i := 19) rfl) rfl
theorem mw_537 : Cond.code yX7_stopped cX7_stopped 2 (some .int) ∈ ws0 := ws0_3 (List.mem_of_getElem? (i := 20) rfl) rfl
theorem mw_538 : Cond.methodLink RL 57 yX8_stopped ∈ ws0 := ws0_4 (List.mem_of_getElem? (i := 113) rfl) rfl
theorem mw_539 : Cond.instanceMethod yX8_stopped ∈ ws0 := ws0_4 (List.mem_of_getElem? (i := 114) rfl) rfl
theorem mw_540 : Cond.selects RX8 yX8_stopped yX8_stopped ∈ ws0 := ws0_4 (List.mem_of_getElem? (i := 115) rfl) rfl
theorem mw_541 : Cond.code yX8_stopped cX8_stopped 2 (some .int) ∈ ws0 := ws0_4 (List.mem_of_getElem? (i := 116) rfl) rfl
theorem mw_542 : Cond.methodLink RL 58 yX7_undo ∈ ws0 := ws0_3 (List.mem_of_getElem? (i := 21) rfl) rfl
theorem mw_543 : Cond.instanceMethod yX7_undo ∈ ws0 := ws0_3 (List.mem_of_getElem? (i := 22) rfl) rfl
theorem mw_544 : Cond.selects RX7 yX7_undo yX7_undo ∈ ws0 := ws0_3 (List.mem_of_getElem? (i := 23) rfl) rfl
theorem mw_545 : Cond.code yX7_undo cX7_undo 1 (some .int) ∈ ws0 := ws0_3 (List.mem_of_getElem? (i := 24) rfl) rfl
theorem mw_546 : Cond.methodLink RX7 91 yX0_takeBack ∈ ws0 := ws0_3 (List.mem_of_getElem? (i := 25) rfl) rfl
theorem mw_547 : Cond.instanceMethod yX0_takeBack ∈ ws0 := ws0_3 (List.mem_of_getElem? (i := 26) rfl) rfl
theorem mw_548 : Cond.selects RX0 yX0_takeBack yX0_takeBack ∈ ws0 := ws0_3 (List.mem_of_getElem? (i := 27) rfl) rfl
theorem mw_549 : Cond.code yX0_takeBack cX0_takeBack 2 (some .int) ∈ ws0 := ws0_3 (List.mem_of_getElem? (i := 28) rfl) rfl
theorem mw_550 : Cond.methodLink RL 61 yX8_undo ∈ ws0 := ws0_4 (List.mem_of_getElem? (i := 117) rfl) rfl
theorem mw_551 : Cond.instanceMethod yX8_undo ∈ ws0 := ws0_4 (List.mem_of_getElem? (i := 118) rfl) rfl
theorem mw_552 : Cond.selects RX8 yX8_undo yX8_undo ∈ ws0 := ws0_4 (List.mem_of_getElem? (i := 119) rfl) rfl
theorem mw_553 : Cond.code yX8_undo cX8_undo 1 (some .int) ∈ ws0 := ws0_4 (List.mem_of_getElem? (i := 120) rfl) rfl
theorem mw_554 : Cond.methodLink RL 62 yX7_keep ∈ ws0 := ws0_3 (List.mem_of_getElem? (i := 29) rfl) rfl
theorem mw_555 : Cond.instanceMethod yX7_keep ∈ ws0 := ws0_3 (List.mem_of_getElem? (i := 30) rfl) rfl
theorem mw_556 : Cond.selects RX7 yX7_keep yX7_keep ∈ ws0 := ws0_3 (List.mem_of_getElem? (i := 31) rfl) rfl
theorem mw_557 : Cond.code yX7_keep cX7_keep 1 (some .int) ∈ ws0 := ws0_3 (List.mem_of_getElem? (i := 32) rfl) rfl
theorem mw_558 : Cond.fieldLink RX7 95 "HiveBylaws" "hasSnapshot" "Z" ∈ ws0 := ws0_2 (List.mem_of_getElem? (i := 20) rfl) rfl
theorem mw_559 : Cond.fieldLink RX7 99 "HiveBylaws$State" "laws" "LHiveBylaws$Laws;" ∈ ws0 := ws0_1 (List.mem_of_getElem? (i := 157) rfl) rfl
theorem mw_560 : Cond.methodLink RX7 103 yX1_size ∈ ws0 := ws0_3 (List.mem_of_getElem? (i := 33) rfl) rfl
theorem mw_561 : Cond.instanceMethod yX1_size ∈ ws0 := ws0_3 (List.mem_of_getElem? (i := 34) rfl) rfl
theorem mw_562 : Cond.selects RX1 yX1_size yX1_size ∈ ws0 := ws0_3 (List.mem_of_getElem? (i := 35) rfl) rfl
theorem mw_563 : Cond.code yX1_size cX1_size 1 (some .int) ∈ ws0 := ws0_3 (List.mem_of_getElem? (i := 36) rfl) rfl
theorem mw_564 : Cond.methodLink RX1 27 yX1_rankOf ∈ ws0 := ws0_3 (List.mem_of_getElem? (i := 37) rfl) rfl
theorem mw_565 : Cond.instanceMethod yX1_rankOf ∈ ws0 := ws0_3 (List.mem_of_getElem? (i := 38) rfl) rfl
theorem mw_566 : Cond.selects RX1 yX1_rankOf yX1_rankOf ∈ ws0 := ws0_3 (List.mem_of_getElem? (i := 39) rfl) rfl
theorem mw_567 : Cond.code yX1_rankOf cX1_rankOf 4 (some .int) ∈ ws0 := ws0_3 (List.mem_of_getElem? (i := 40) rfl) rfl
theorem mw_568 : Cond.methodLink RL 65 yX8_keep ∈ ws0 := ws0_4 (List.mem_of_getElem? (i := 121) rfl) rfl
theorem mw_569 : Cond.instanceMethod yX8_keep ∈ ws0 := ws0_4 (List.mem_of_getElem? (i := 122) rfl) rfl
theorem mw_570 : Cond.selects RX8 yX8_keep yX8_keep ∈ ws0 := ws0_4 (List.mem_of_getElem? (i := 123) rfl) rfl
theorem mw_571 : Cond.code yX8_keep cX8_keep 1 (some .int) ∈ ws0 := ws0_4 (List.mem_of_getElem? (i := 124) rfl) rfl
theorem mw_572 : Cond.fieldLink RX8 166 "HiveBylawsModel" "isKept" "Z" ∈ ws0 := ws0_3 (List.mem_of_getElem? (i := 147) rfl) rfl
theorem mw_573 : Cond.methodLink RX8 170 yX8_bylaws ∈ ws0 := ws0_4 (List.mem_of_getElem? (i := 125) rfl) rfl
theorem mw_574 : Cond.instanceMethod yX8_bylaws ∈ ws0 := ws0_4 (List.mem_of_getElem? (i := 127) rfl) rfl
theorem mw_575 : Cond.selects RX8 yX8_bylaws yX8_bylaws ∈ ws0 := ws0_p (n := 15) (ws0_q3 (List.mem_of_getElem? (i := 6) rfl))
theorem mw_576 : Cond.code yX8_bylaws cX8_bylaws 5 (some .int) ∈ ws0 := ws0_4 (List.mem_of_getElem? (i := 128) rfl) rfl
theorem mw_577 : Cond.methodLink RL 66 yX7_restore ∈ ws0 := ws0_3 (List.mem_of_getElem? (i := 41) rfl) rfl
theorem mw_578 : Cond.instanceMethod yX7_restore ∈ ws0 := ws0_3 (List.mem_of_getElem? (i := 42) rfl) rfl
theorem mw_579 : Cond.selects RX7 yX7_restore yX7_restore ∈ ws0 := ws0_3 (List.mem_of_getElem? (i := 43) rfl) rfl
theorem mw_580 : Cond.code yX7_restore cX7_restore 1 (some .int) ∈ ws0 := ws0_3 (List.mem_of_getElem? (i := 44) rfl) rfl
theorem mw_581 : Cond.methodLink RL 69 yX8_restore ∈ ws0 := ws0_4 (List.mem_of_getElem? (i := 129) rfl) rfl
theorem mw_582 : Cond.instanceMethod yX8_restore ∈ ws0 := ws0_4 (List.mem_of_getElem? (i := 130) rfl) rfl
theorem mw_583 : Cond.selects RX8 yX8_restore yX8_restore ∈ ws0 := ws0_4 (List.mem_of_getElem? (i := 131) rfl) rfl
theorem mw_584 : Cond.code yX8_restore cX8_restore 1 (some .int) ∈ ws0 := ws0_4 (List.mem_of_getElem? (i := 132) rfl) rfl
theorem mw_585 : Cond.methodLink RL 70 yX7_drone ∈ ws0 := ws0_3 (List.mem_of_getElem? (i := 45) rfl) rfl
theorem mw_586 : Cond.instanceMethod yX7_drone ∈ ws0 := ws0_3 (List.mem_of_getElem? (i := 46) rfl) rfl
theorem mw_587 : Cond.selects RX7 yX7_drone yX7_drone ∈ ws0 := ws0_3 (List.mem_of_getElem? (i := 47) rfl) rfl
theorem mw_588 : Cond.code yX7_drone cX7_drone 4 (some .int) ∈ ws0 := ws0_3 (List.mem_of_getElem? (i := 48) rfl) rfl
theorem mw_589 : Cond.fieldLink RX7 108 "HiveBylaws$State" "swarm" "LHiveBylaws$Swarm;" ∈ ws0 := ws0_1 (List.mem_of_getElem? (i := 155) rfl) rfl
theorem mw_590 : Cond.fieldLink RX7 118 "HiveBylaws$Swarm" "comb" "[I" ∈ ws0 := ws0_1 (List.mem_of_getElem? (i := 36) rfl) rfl
theorem mw_591 : Cond.fieldLink RX7 122 "HiveBylaws$Swarm" "weight" "[I" ∈ ws0 := ws0_1 (List.mem_of_getElem? (i := 39) rfl) rfl
theorem mw_592 : Cond.fieldLink RX7 125 "HiveBylaws$State" "petitions" "LHiveBylaws$Petitions;" ∈ ws0 := ws0_1 (List.mem_of_getElem? (i := 159) rfl) rfl
theorem mw_593 : Cond.fieldLink RX7 137 "HiveBylaws$Swarm" "made" "[I" ∈ ws0 := ws0_1 (List.mem_of_getElem? (i := 42) rfl) rfl
theorem mw_594 : Cond.fieldLink RX7 140 "HiveBylaws$Swarm" "passed" "[I" ∈ ws0 := ws0_1 (List.mem_of_getElem? (i := 45) rfl) rfl
theorem mw_595 : Cond.fieldLink RX7 143 "HiveBylaws$Swarm" "refused" "[I" ∈ ws0 := ws0_1 (List.mem_of_getElem? (i := 48) rfl) rfl
theorem mw_596 : Cond.methodLink RX7 112 yX6_knows ∈ ws0 := ws0_3 (List.mem_of_getElem? (i := 49) rfl) rfl
theorem mw_597 : Cond.methodLink RX7 129 yX3_madeBy ∈ ws0 := ws0_3 (List.mem_of_getElem? (i := 50) rfl) rfl
theorem mw_598 : Cond.methodLink RX7 134 yX3_secondedBy ∈ ws0 := ws0_3 (List.mem_of_getElem? (i := 51) rfl) rfl
theorem mw_599 : Cond.instanceMethod yX3_secondedBy ∈ ws0 := ws0_3 (List.mem_of_getElem? (i := 52) rfl) rfl
theorem mw_600 : Cond.selects RX3 yX3_secondedBy yX3_secondedBy ∈ ws0 := ws0_3 (List.mem_of_getElem? (i := 53) rfl) rfl
theorem mw_601 : Cond.code yX3_secondedBy cX3_secondedBy 4 (some .int) ∈ ws0 := ws0_3 (List.mem_of_getElem? (i := 54) rfl) rfl
theorem mw_602 : Cond.methodLink RL 73 yX8_drone ∈ ws0 := ws0_4 (List.mem_of_getElem? (i := 133) rfl) rfl
theorem mw_603 : Cond.instanceMethod yX8_drone ∈ ws0 := ws0_4 (List.mem_of_getElem? (i := 134) rfl) rfl
theorem mw_604 : Cond.selects RX8 yX8_drone yX8_drone ∈ ws0 := ws0_4 (List.mem_of_getElem? (i := 135) rfl) rfl
theorem mw_605 : Cond.code yX8_drone cX8_drone 3 (some .int) ∈ ws0 := ws0_4 (List.mem_of_getElem? (i := 136) rfl) rfl
theorem mw_606 : Cond.methodLink RX8 173 yX8_secondedBy ∈ ws0 := ws0_4 (List.mem_of_getElem? (i := 137) rfl) rfl
theorem mw_607 : Cond.instanceMethod yX8_secondedBy ∈ ws0 := ws0_4 (List.mem_of_getElem? (i := 139) rfl) rfl
theorem mw_608 : Cond.selects RX8 yX8_secondedBy yX8_secondedBy ∈ ws0 := ws0_p (n := 15) (ws0_q3 (List.mem_of_getElem? (i := 7) rfl))
theorem mw_609 : Cond.code yX8_secondedBy cX8_secondedBy 4 (some .int) ∈ ws0 := ws0_4 (List.mem_of_getElem? (i := 140) rfl) rfl
theorem mw_610 : Cond.methodLink RL 74 yX7_bylaw ∈ ws0 := ws0_3 (List.mem_of_getElem? (i := 55) rfl) rfl
theorem mw_611 : Cond.instanceMethod yX7_bylaw ∈ ws0 := ws0_3 (List.mem_of_getElem? (i := 56) rfl) rfl
theorem mw_612 : Cond.selects RX7 yX7_bylaw yX7_bylaw ∈ ws0 := ws0_3 (List.mem_of_getElem? (i := 57) rfl) rfl
theorem mw_613 : Cond.code yX7_bylaw cX7_bylaw 5 (some .int) ∈ ws0 := ws0_3 (List.mem_of_getElem? (i := 58) rfl) rfl
theorem mw_614 : Cond.fieldLink RX7 149 "HiveBylaws$Laws" "stance" "[I" ∈ ws0 := ws0_1 (List.mem_of_getElem? (i := 71) rfl) rfl
theorem mw_615 : Cond.fieldLink RX7 152 "HiveBylaws$Laws" "strength" "[I" ∈ ws0 := ws0_1 (List.mem_of_getElem? (i := 74) rfl) rfl
theorem mw_616 : Cond.fieldLink RX7 155 "HiveBylaws$Laws" "season" "[I" ∈ ws0 := ws0_1 (List.mem_of_getElem? (i := 77) rfl) rfl
theorem mw_617 : Cond.methodLink RX7 146 yX1_spotAt ∈ ws0 := ws0_3 (List.mem_of_getElem? (i := 59) rfl) rfl
theorem mw_618 : Cond.instanceMethod yX1_spotAt ∈ ws0 := ws0_3 (List.mem_of_getElem? (i := 60) rfl) rfl
theorem mw_619 : Cond.selects RX1 yX1_spotAt yX1_spotAt ∈ ws0 := ws0_3 (List.mem_of_getElem? (i := 61) rfl) rfl
theorem mw_620 : Cond.code yX1_spotAt cX1_spotAt 4 (some .int) ∈ ws0 := ws0_3 (List.mem_of_getElem? (i := 62) rfl) rfl
theorem mw_621 : Cond.methodLink RX7 158 yX6_weightAt ∈ ws0 := ws0_3 (List.mem_of_getElem? (i := 63) rfl) rfl
theorem mw_622 : Cond.methodLink RL 77 yX8_bylaw ∈ ws0 := ws0_4 (List.mem_of_getElem? (i := 141) rfl) rfl
theorem mw_623 : Cond.instanceMethod yX8_bylaw ∈ ws0 := ws0_4 (List.mem_of_getElem? (i := 142) rfl) rfl
theorem mw_624 : Cond.selects RX8 yX8_bylaw yX8_bylaw ∈ ws0 := ws0_4 (List.mem_of_getElem? (i := 143) rfl) rfl
theorem mw_625 : Cond.code yX8_bylaw cX8_bylaw 4 (some .int) ∈ ws0 := ws0_4 (List.mem_of_getElem? (i := 144) rfl) rfl
theorem mw_626 : Cond.methodLink RX8 176 yX8_ranked ∈ ws0 := ws0_4 (List.mem_of_getElem? (i := 145) rfl) rfl
theorem mw_627 : Cond.instanceMethod yX8_ranked ∈ ws0 := ws0_4 (List.mem_of_getElem? (i := 147) rfl) rfl
theorem mw_628 : Cond.selects RX8 yX8_ranked yX8_ranked ∈ ws0 := ws0_p (n := 15) (ws0_q3 (List.mem_of_getElem? (i := 8) rfl))
theorem mw_629 : Cond.code yX8_ranked cX8_ranked 4 (some .int) ∈ ws0 := ws0_4 (List.mem_of_getElem? (i := 148) rfl) rfl
theorem mw_630 : Cond.methodLink RL 78 yX7_petitionOf ∈ ws0 := ws0_3 (List.mem_of_getElem? (i := 64) rfl) rfl
theorem mw_631 : Cond.instanceMethod yX7_petitionOf ∈ ws0 := ws0_3 (List.mem_of_getElem? (i := 65) rfl) rfl
theorem mw_632 : Cond.selects RX7 yX7_petitionOf yX7_petitionOf ∈ ws0 := ws0_3 (List.mem_of_getElem? (i := 66) rfl) rfl
theorem mw_633 : Cond.code yX7_petitionOf cX7_petitionOf 4 (some .int) ∈ ws0 := ws0_3 (List.mem_of_getElem? (i := 67) rfl) rfl
theorem mw_634 : Cond.fieldLink RX7 164 "HiveBylaws$Petitions" "drone" "[I" ∈ ws0 := ws0_1 (List.mem_of_getElem? (i := 96) rfl) rfl
theorem mw_635 : Cond.fieldLink RX7 167 "HiveBylaws$Petitions" "place" "[I" ∈ ws0 := ws0_1 (List.mem_of_getElem? (i := 100) rfl) rfl
theorem mw_636 : Cond.fieldLink RX7 170 "HiveBylaws$Petitions" "doing" "[I" ∈ ws0 := ws0_1 (List.mem_of_getElem? (i := 104) rfl) rfl
theorem mw_637 : Cond.fieldLink RX7 173 "HiveBylaws$Petitions" "kind" "[I" ∈ ws0 := ws0_1 (List.mem_of_getElem? (i := 108) rfl) rfl
theorem mw_638 : Cond.fieldLink RX7 176 "HiveBylaws$Petitions" "support" "[I" ∈ ws0 := ws0_1 (List.mem_of_getElem? (i := 112) rfl) rfl
theorem mw_639 : Cond.fieldLink RX7 179 "HiveBylaws$Petitions" "seconders" "[I" ∈ ws0 := ws0_1 (List.mem_of_getElem? (i := 115) rfl) rfl
theorem mw_640 : Cond.methodLink RX7 161 yX3_has ∈ ws0 := ws0_3 (List.mem_of_getElem? (i := 68) rfl) rfl
theorem mw_641 : Cond.methodLink RL 81 yX8_petitionOf ∈ ws0 := ws0_4 (List.mem_of_getElem? (i := 149) rfl) rfl
theorem mw_642 : Cond.instanceMethod yX8_petitionOf ∈ ws0 := ws0_4 (List.mem_of_getElem? (i := 150) rfl) rfl
theorem mw_643 : Cond.selects RX8 yX8_petitionOf yX8_petitionOf ∈ ws0 := ws0_4 (List.mem_of_getElem? (i := 151) rfl) rfl
theorem mw_644 : Cond.code yX8_petitionOf cX8_petitionOf 4 (some .int) ∈ ws0 := ws0_4 (List.mem_of_getElem? (i := 152) rfl) rfl
theorem mw_645 : Cond.methodLink RL 82 yX7_heard ∈ ws0 := ws0_3 (List.mem_of_getElem? (i := 69) rfl) rfl
theorem mw_646 : Cond.instanceMethod yX7_heard ∈ ws0 := ws0_3 (List.mem_of_getElem? (i := 70) rfl) rfl
theorem mw_647 : Cond.selects RX7 yX7_heard yX7_heard ∈ ws0 := ws0_3 (List.mem_of_getElem? (i := 71) rfl) rfl
theorem mw_648 : Cond.code yX7_heard cX7_heard 2 (some .int) ∈ ws0 := ws0_3 (List.mem_of_getElem? (i := 72) rfl) rfl
theorem mw_649 : Cond.methodLink RX7 182 yX3_atRank ∈ ws0 := ws0_3 (List.mem_of_getElem? (i := 73) rfl) rfl
theorem mw_650 : Cond.methodLink RL 85 yX8_heard ∈ ws0 := ws0_4 (List.mem_of_getElem? (i := 153) rfl) rfl
theorem mw_651 : Cond.instanceMethod yX8_heard ∈ ws0 := ws0_4 (List.mem_of_getElem? (i := 154) rfl) rfl
theorem mw_652 : Cond.selects RX8 yX8_heard yX8_heard ∈ ws0 := ws0_4 (List.mem_of_getElem? (i := 155) rfl) rfl
theorem mw_653 : Cond.code yX8_heard cX8_heard 2 (some .int) ∈ ws0 := ws0_4 (List.mem_of_getElem? (i := 156) rfl) rfl
theorem mw_654 : Cond.methodLink RL 86 yX7_rule ∈ ws0 := ws0_3 (List.mem_of_getElem? (i := 74) rfl) rfl
theorem mw_655 : Cond.instanceMethod yX7_rule ∈ ws0 := ws0_3 (List.mem_of_getElem? (i := 75) rfl) rfl
theorem mw_656 : Cond.selects RX7 yX7_rule yX7_rule ∈ ws0 := ws0_3 (List.mem_of_getElem? (i := 76) rfl) rfl
theorem mw_657 : Cond.code yX7_rule cX7_rule 5 (some .int) ∈ ws0 := ws0_3 (List.mem_of_getElem? (i := 77) rfl) rfl
theorem mw_658 : Cond.methodLink RX7 185 yX7_isComb ∈ ws0 := ws0_3 (List.mem_of_getElem? (i := 78) rfl) rfl
theorem mw_659 : Cond.methodLink RX7 188 yX7_isDoing ∈ ws0 := ws0_3 (List.mem_of_getElem? (i := 79) rfl) rfl
theorem mw_660 : Cond.methodLink RX7 191 yX1_rulingPlace ∈ ws0 := ws0_3 (List.mem_of_getElem? (i := 80) rfl) rfl
theorem mw_661 : Cond.instanceMethod yX1_rulingPlace ∈ ws0 := ws0_3 (List.mem_of_getElem? (i := 81) rfl) rfl
theorem mw_662 : Cond.selects RX1 yX1_rulingPlace yX1_rulingPlace ∈ ws0 := ws0_3 (List.mem_of_getElem? (i := 82) rfl) rfl
theorem mw_663 : Cond.code yX1_rulingPlace cX1_rulingPlace 5 (some .int) ∈ ws0 := ws0_3 (List.mem_of_getElem? (i := 83) rfl) rfl
theorem mw_664 : Cond.methodLink RX1 31 yX1_strengthOf ∈ ws0 := ws0_3 (List.mem_of_getElem? (i := 84) rfl) rfl
theorem mw_665 : Cond.methodLink RX7 194 yX1_isForbidden ∈ ws0 := ws0_3 (List.mem_of_getElem? (i := 85) rfl) rfl
theorem mw_666 : Cond.instanceMethod yX1_isForbidden ∈ ws0 := ws0_3 (List.mem_of_getElem? (i := 86) rfl) rfl
theorem mw_667 : Cond.selects RX1 yX1_isForbidden yX1_isForbidden ∈ ws0 := ws0_3 (List.mem_of_getElem? (i := 87) rfl) rfl
theorem mw_668 : Cond.code yX1_isForbidden cX1_isForbidden 4 (some .boolean) ∈ ws0 := ws0_3 (List.mem_of_getElem? (i := 88) rfl) rfl
theorem mw_669 : Cond.methodLink RX1 35 yX1_rulingPlace ∈ ws0 := ws0_3 (List.mem_of_getElem? (i := 89) rfl) rfl
theorem mw_670 : Cond.methodLink RX1 38 yX1_stanceOf ∈ ws0 := ws0_3 (List.mem_of_getElem? (i := 90) rfl) rfl
theorem mw_671 : Cond.methodLink RX7 198 yX1_strengthOf ∈ ws0 := ws0_3 (List.mem_of_getElem? (i := 91) rfl) rfl
theorem mw_672 : Cond.methodLink RL 90 yX8_rule ∈ ws0 := ws0_4 (List.mem_of_getElem? (i := 157) rfl) rfl
theorem mw_673 : Cond.instanceMethod yX8_rule ∈ ws0 := ws0_4 (List.mem_of_getElem? (i := 158) rfl) rfl
theorem mw_674 : Cond.selects RX8 yX8_rule yX8_rule ∈ ws0 := ws0_4 (List.mem_of_getElem? (i := 159) rfl) rfl
theorem mw_675 : Cond.code yX8_rule cX8_rule 5 (some .int) ∈ ws0 := ws0_4 (List.mem_of_getElem? (i := 160) rfl) rfl
theorem mw_676 : Cond.methodLink RX8 179 yX8_ruling ∈ ws0 := ws0_4 (List.mem_of_getElem? (i := 161) rfl) rfl
theorem mw_677 : Cond.instanceMethod yX8_ruling ∈ ws0 := ws0_4 (List.mem_of_getElem? (i := 163) rfl) rfl
theorem mw_678 : Cond.selects RX8 yX8_ruling yX8_ruling ∈ ws0 := ws0_p (n := 15) (ws0_q3 (List.mem_of_getElem? (i := 9) rfl))
theorem mw_679 : Cond.code yX8_ruling cX8_ruling 5 (some .int) ∈ ws0 := ws0_4 (List.mem_of_getElem? (i := 164) rfl) rfl
theorem mw_680 : Cond.methodLink RX8 182 yX8_isAllowed ∈ ws0 := ws0_4 (List.mem_of_getElem? (i := 165) rfl) rfl
theorem mw_681 : Cond.instanceMethod yX8_isAllowed ∈ ws0 := ws0_4 (List.mem_of_getElem? (i := 167) rfl) rfl
theorem mw_682 : Cond.selects RX8 yX8_isAllowed yX8_isAllowed ∈ ws0 := ws0_p (n := 15) (ws0_q3 (List.mem_of_getElem? (i := 10) rfl))
theorem mw_683 : Cond.code yX8_isAllowed cX8_isAllowed 4 (some .boolean) ∈ ws0 := ws0_4 (List.mem_of_getElem? (i := 168) rfl) rfl
theorem mw_684 : Cond.methodLink RL 91 yX7_reason ∈ ws0 := ws0_3 (List.mem_of_getElem? (i := 92) rfl) rfl
theorem mw_685 : Cond.instanceMethod yX7_reason ∈ ws0 := ws0_3 (List.mem_of_getElem? (i := 93) rfl) rfl
theorem mw_686 : Cond.selects RX7 yX7_reason yX7_reason ∈ ws0 := ws0_3 (List.mem_of_getElem? (i := 94) rfl) rfl
theorem mw_687 : Cond.code yX7_reason cX7_reason 2 (some .int) ∈ ws0 := ws0_3 (List.mem_of_getElem? (i := 95) rfl) rfl
theorem mw_688 : Cond.fieldLink RX7 204 "HiveBylaws$State" "verdict" "[I" ∈ ws0 := ws0_1 (List.mem_of_getElem? (i := 172) rfl) rfl
theorem mw_689 : Cond.methodLink RX7 201 yX5_hearPetitions ∈ ws0 := ws0_3 (List.mem_of_getElem? (i := 96) rfl) rfl
theorem mw_690 : Cond.methodLink RL 94 yX8_reason ∈ ws0 := ws0_4 (List.mem_of_getElem? (i := 169) rfl) rfl
theorem mw_691 : Cond.instanceMethod yX8_reason ∈ ws0 := ws0_4 (List.mem_of_getElem? (i := 170) rfl) rfl
theorem mw_692 : Cond.selects RX8 yX8_reason yX8_reason ∈ ws0 := ws0_4 (List.mem_of_getElem? (i := 171) rfl) rfl
theorem mw_693 : Cond.code yX8_reason cX8_reason 2 (some .int) ∈ ws0 := ws0_4 (List.mem_of_getElem? (i := 172) rfl) rfl
theorem mw_694 : Cond.methodLink RX8 185 yX8_tries ∈ ws0 := ws0_4 (List.mem_of_getElem? (i := 173) rfl) rfl
theorem mw_695 : Cond.instanceMethod yX8_tries ∈ ws0 := ws0_4 (List.mem_of_getElem? (i := 175) rfl) rfl
theorem mw_696 : Cond.selects RX8 yX8_tries yX8_tries ∈ ws0 := ws0_p (n := 15) (ws0_q3 (List.mem_of_getElem? (i := 11) rfl))
theorem mw_697 : Cond.code yX8_tries cX8_tries 2 none ∈ ws0 := ws0_4 (List.mem_of_getElem? (i := 176) rfl) rfl
theorem mw_698 : Cond.methodLink RL 95 yX7_wouldPass ∈ ws0 := ws0_3 (List.mem_of_getElem? (i := 97) rfl) rfl
theorem mw_699 : Cond.instanceMethod yX7_wouldPass ∈ ws0 := ws0_3 (List.mem_of_getElem? (i := 98) rfl) rfl
theorem mw_700 : Cond.selects RX7 yX7_wouldPass yX7_wouldPass ∈ ws0 := ws0_3 (List.mem_of_getElem? (i := 99) rfl) rfl
theorem mw_701 : Cond.code yX7_wouldPass cX7_wouldPass 3 (some .int) ∈ ws0 := ws0_3 (List.mem_of_getElem? (i := 100) rfl) rfl
theorem mw_702 : Cond.fieldLink RX7 207 "HiveBylaws$Petitions" "size" "I" ∈ ws0 := ws0_1 (List.mem_of_getElem? (i := 93) rfl) rfl
theorem mw_703 : Cond.methodLink RL 98 yX8_wouldPass ∈ ws0 := ws0_4 (List.mem_of_getElem? (i := 177) rfl) rfl
theorem mw_704 : Cond.instanceMethod yX8_wouldPass ∈ ws0 := ws0_4 (List.mem_of_getElem? (i := 178) rfl) rfl
theorem mw_705 : Cond.selects RX8 yX8_wouldPass yX8_wouldPass ∈ ws0 := ws0_4 (List.mem_of_getElem? (i := 179) rfl) rfl
theorem mw_706 : Cond.code yX8_wouldPass cX8_wouldPass 3 (some .int) ∈ ws0 := ws0_4 (List.mem_of_getElem? (i := 180) rfl) rfl
theorem mw_707 : Cond.methodLink RL 99 yX7_lacks ∈ ws0 := ws0_3 (List.mem_of_getElem? (i := 101) rfl) rfl
theorem mw_708 : Cond.instanceMethod yX7_lacks ∈ ws0 := ws0_3 (List.mem_of_getElem? (i := 102) rfl) rfl
theorem mw_709 : Cond.selects RX7 yX7_lacks yX7_lacks ∈ ws0 := ws0_3 (List.mem_of_getElem? (i := 103) rfl) rfl
theorem mw_710 : Cond.code yX7_lacks cX7_lacks 4 (some .int) ∈ ws0 := ws0_3 (List.mem_of_getElem? (i := 104) rfl) rfl
theorem mw_711 : Cond.methodLink RX7 209 yX5_reasonToRefuse ∈ ws0 := ws0_3 (List.mem_of_getElem? (i := 105) rfl) rfl
theorem mw_712 : Cond.methodLink RL 102 yX8_lacks ∈ ws0 := ws0_4 (List.mem_of_getElem? (i := 181) rfl) rfl
theorem mw_713 : Cond.instanceMethod yX8_lacks ∈ ws0 := ws0_4 (List.mem_of_getElem? (i := 182) rfl) rfl
theorem mw_714 : Cond.selects RX8 yX8_lacks yX8_lacks ∈ ws0 := ws0_4 (List.mem_of_getElem? (i := 183) rfl) rfl
theorem mw_715 : Cond.code yX8_lacks cX8_lacks 4 (some .int) ∈ ws0 := ws0_4 (List.mem_of_getElem? (i := 184) rfl) rfl
theorem mw_716 : Cond.methodLink RL 103 yX7_free ∈ ws0 := ws0_3 (List.mem_of_getElem? (i := 106) rfl) rfl
theorem mw_717 : Cond.instanceMethod yX7_free ∈ ws0 := ws0_3 (List.mem_of_getElem? (i := 107) rfl) rfl
theorem mw_718 : Cond.selects RX7 yX7_free yX7_free ∈ ws0 := ws0_3 (List.mem_of_getElem? (i := 108) rfl) rfl
theorem mw_719 : Cond.code yX7_free cX7_free 2 (some .int) ∈ ws0 := ws0_3 (List.mem_of_getElem? (i := 109) rfl) rfl
theorem mw_720 : Cond.fieldLink RX7 212 "HiveBylaws$Swarm" "size" "I" ∈ ws0 := ws0_1 (List.mem_of_getElem? (i := 33) rfl) rfl
theorem mw_721 : Cond.methodLink RX7 213 yX3_makers ∈ ws0 := ws0_3 (List.mem_of_getElem? (i := 110) rfl) rfl
theorem mw_722 : Cond.instanceMethod yX3_makers ∈ ws0 := ws0_3 (List.mem_of_getElem? (i := 111) rfl) rfl
theorem mw_723 : Cond.selects RX3 yX3_makers yX3_makers ∈ ws0 := ws0_3 (List.mem_of_getElem? (i := 112) rfl) rfl
theorem mw_724 : Cond.code yX3_makers cX3_makers 3 (some .int) ∈ ws0 := ws0_3 (List.mem_of_getElem? (i := 113) rfl) rfl
theorem mw_725 : Cond.methodLink RL 106 yX8_free ∈ ws0 := ws0_4 (List.mem_of_getElem? (i := 185) rfl) rfl
theorem mw_726 : Cond.instanceMethod yX8_free ∈ ws0 := ws0_4 (List.mem_of_getElem? (i := 186) rfl) rfl
theorem mw_727 : Cond.selects RX8 yX8_free yX8_free ∈ ws0 := ws0_4 (List.mem_of_getElem? (i := 187) rfl) rfl
theorem mw_728 : Cond.code yX8_free cX8_free 3 (some .int) ∈ ws0 := ws0_4 (List.mem_of_getElem? (i := 188) rfl) rfl
theorem mw_729 : Cond.methodLink RL 107 yX7_oldest ∈ ws0 := ws0_3 (List.mem_of_getElem? (i := 114) rfl) rfl
theorem mw_730 : Cond.instanceMethod yX7_oldest ∈ ws0 := ws0_3 (List.mem_of_getElem? (i := 115) rfl) rfl
theorem mw_731 : Cond.selects RX7 yX7_oldest yX7_oldest ∈ ws0 := ws0_3 (List.mem_of_getElem? (i := 116) rfl) rfl
theorem mw_732 : Cond.code yX7_oldest cX7_oldest 4 (some .int) ∈ ws0 := ws0_3 (List.mem_of_getElem? (i := 117) rfl) rfl
theorem mw_733 : Cond.methodLink RX7 216 yX1_oldestSpot ∈ ws0 := ws0_3 (List.mem_of_getElem? (i := 118) rfl) rfl
theorem mw_734 : Cond.instanceMethod yX1_oldestSpot ∈ ws0 := ws0_3 (List.mem_of_getElem? (i := 119) rfl) rfl
theorem mw_735 : Cond.selects RX1 yX1_oldestSpot yX1_oldestSpot ∈ ws0 := ws0_3 (List.mem_of_getElem? (i := 120) rfl) rfl
theorem mw_736 : Cond.code yX1_oldestSpot cX1_oldestSpot 5 (some .int) ∈ ws0 := ws0_3 (List.mem_of_getElem? (i := 121) rfl) rfl
theorem mw_737 : Cond.methodLink RX7 219 yX1_rankOf ∈ ws0 := ws0_3 (List.mem_of_getElem? (i := 122) rfl) rfl
theorem mw_738 : Cond.methodLink RL 110 yX8_oldest ∈ ws0 := ws0_4 (List.mem_of_getElem? (i := 189) rfl) rfl
theorem mw_739 : Cond.instanceMethod yX8_oldest ∈ ws0 := ws0_4 (List.mem_of_getElem? (i := 190) rfl) rfl
theorem mw_740 : Cond.selects RX8 yX8_oldest yX8_oldest ∈ ws0 := ws0_4 (List.mem_of_getElem? (i := 191) rfl) rfl
theorem mw_741 : Cond.code yX8_oldest cX8_oldest 4 (some .int) ∈ ws0 := ws0_4 (List.mem_of_getElem? (i := 192) rfl) rfl
theorem mw_742 : Cond.methodLink RX8 188 yX8_oldestAt ∈ ws0 := ws0_4 (List.mem_of_getElem? (i := 193) rfl) rfl
theorem mw_743 : Cond.instanceMethod yX8_oldestAt ∈ ws0 := ws0_4 (List.mem_of_getElem? (i := 195) rfl) rfl
theorem mw_744 : Cond.selects RX8 yX8_oldestAt yX8_oldestAt ∈ ws0 := ws0_p (n := 15) (ws0_q3 (List.mem_of_getElem? (i := 12) rfl))
theorem mw_745 : Cond.code yX8_oldestAt cX8_oldestAt 5 (some .int) ∈ ws0 := ws0_4 (List.mem_of_getElem? (i := 196) rfl) rfl
theorem mw_746 : Cond.methodLink RX8 191 yX8_rankOf ∈ ws0 := ws0_4 (List.mem_of_getElem? (i := 197) rfl) rfl
theorem mw_747 : Cond.instanceMethod yX8_rankOf ∈ ws0 := ws0_4 (List.mem_of_getElem? (i := 199) rfl) rfl
theorem mw_748 : Cond.selects RX8 yX8_rankOf yX8_rankOf ∈ ws0 := ws0_p (n := 15) (ws0_q3 (List.mem_of_getElem? (i := 13) rfl))
theorem mw_749 : Cond.code yX8_rankOf cX8_rankOf 4 (some .int) ∈ ws0 := ws0_4 (List.mem_of_getElem? (i := 200) rfl) rfl
theorem mw_750 : Cond.methodLink RL 111 yX7_count ∈ ws0 := ws0_3 (List.mem_of_getElem? (i := 123) rfl) rfl
theorem mw_751 : Cond.instanceMethod yX7_count ∈ ws0 := ws0_3 (List.mem_of_getElem? (i := 124) rfl) rfl
theorem mw_752 : Cond.selects RX7 yX7_count yX7_count ∈ ws0 := ws0_3 (List.mem_of_getElem? (i := 125) rfl) rfl
theorem mw_753 : Cond.code yX7_count cX7_count 2 (some .int) ∈ ws0 := ws0_3 (List.mem_of_getElem? (i := 126) rfl) rfl
theorem mw_754 : Cond.fieldLink RX7 222 "HiveBylaws$State" "day" "I" ∈ ws0 := ws0_1 (List.mem_of_getElem? (i := 164) rfl) rfl
theorem mw_755 : Cond.fieldLink RX7 225 "HiveBylaws$State" "season" "I" ∈ ws0 := ws0_1 (List.mem_of_getElem? (i := 166) rfl) rfl
theorem mw_756 : Cond.fieldLink RX7 227 "HiveBylaws$State" "daysOfSeason" "I" ∈ ws0 := ws0_1 (List.mem_of_getElem? (i := 168) rfl) rfl
theorem mw_757 : Cond.fieldLink RX7 237 "HiveBylaws$State" "repeals" "I" ∈ ws0 := ws0_1 (List.mem_of_getElem? (i := 170) rfl) rfl
theorem mw_758 : Cond.fieldLink RX7 243 "HiveBylaws$State" "setting" "[I" ∈ ws0 := ws0_1 (List.mem_of_getElem? (i := 162) rfl) rfl
theorem mw_759 : Cond.fieldLink RX7 246 "HiveBylaws$History" "size" "I" ∈ ws0 := ws0_1 (List.mem_of_getElem? (i := 206) rfl) rfl
theorem mw_760 : Cond.fieldLink RX7 247 "HiveBylaws$PetitionText" "length" "I" ∈ ws0 := ws0_1 (List.mem_of_getElem? (i := 222) rfl) rfl
theorem mw_761 : Cond.methodLink RX7 230 yX1_forbidding ∈ ws0 := ws0_3 (List.mem_of_getElem? (i := 127) rfl) rfl
theorem mw_762 : Cond.instanceMethod yX1_forbidding ∈ ws0 := ws0_3 (List.mem_of_getElem? (i := 128) rfl) rfl
theorem mw_763 : Cond.selects RX1 yX1_forbidding yX1_forbidding ∈ ws0 := ws0_3 (List.mem_of_getElem? (i := 129) rfl) rfl
theorem mw_764 : Cond.code yX1_forbidding cX1_forbidding 3 (some .int) ∈ ws0 := ws0_3 (List.mem_of_getElem? (i := 130) rfl) rfl
theorem mw_765 : Cond.methodLink RX7 233 yX7_sum ∈ ws0 := ws0_3 (List.mem_of_getElem? (i := 131) rfl) rfl
theorem mw_766 : Cond.static yX7_sum ∈ ws0 := ws0_3 (List.mem_of_getElem? (i := 132) rfl) rfl
theorem mw_767 : Cond.code yX7_sum cX7_sum 6 (some .int) ∈ ws0 := ws0_3 (List.mem_of_getElem? (i := 133) rfl) rfl
theorem mw_768 : Cond.methodLink RX7 240 yX1_forbiddenDoings ∈ ws0 := ws0_3 (List.mem_of_getElem? (i := 134) rfl) rfl
theorem mw_769 : Cond.instanceMethod yX1_forbiddenDoings ∈ ws0 := ws0_3 (List.mem_of_getElem? (i := 135) rfl) rfl
theorem mw_770 : Cond.selects RX1 yX1_forbiddenDoings yX1_forbiddenDoings ∈ ws0 := ws0_3 (List.mem_of_getElem? (i := 136) rfl) rfl
theorem mw_771 : Cond.code yX1_forbiddenDoings cX1_forbiddenDoings 4 (some .int) ∈ ws0 := ws0_3 (List.mem_of_getElem? (i := 137) rfl) rfl
theorem mw_772 : Cond.methodLink RX1 41 yX1_isForbidden ∈ ws0 := ws0_3 (List.mem_of_getElem? (i := 138) rfl) rfl
theorem mw_773 : Cond.methodLink RL 114 yX8_count ∈ ws0 := ws0_4 (List.mem_of_getElem? (i := 201) rfl) rfl
theorem mw_774 : Cond.instanceMethod yX8_count ∈ ws0 := ws0_4 (List.mem_of_getElem? (i := 202) rfl) rfl
theorem mw_775 : Cond.selects RX8 yX8_count yX8_count ∈ ws0 := ws0_4 (List.mem_of_getElem? (i := 203) rfl) rfl
theorem mw_776 : Cond.code yX8_count cX8_count 2 (some .int) ∈ ws0 := ws0_4 (List.mem_of_getElem? (i := 204) rfl) rfl
theorem mw_777 : Cond.methodLink RX8 194 yX8_forbiddenAtCombs ∈ ws0 := ws0_4 (List.mem_of_getElem? (i := 205) rfl) rfl
theorem mw_778 : Cond.instanceMethod yX8_forbiddenAtCombs ∈ ws0 := ws0_4 (List.mem_of_getElem? (i := 207) rfl) rfl
theorem mw_779 : Cond.selects RX8 yX8_forbiddenAtCombs yX8_forbiddenAtCombs ∈ ws0 := ws0_p (n := 15) (ws0_q3 (List.mem_of_getElem? (i := 14) rfl))
theorem mw_780 : Cond.code yX8_forbiddenAtCombs cX8_forbiddenAtCombs 3 (some .int) ∈ ws0 := ws0_4 (List.mem_of_getElem? (i := 208) rfl) rfl
theorem in0_X0 : ∀ w ∈ wsX00, w ∈ ws0 := by
  intro w hw
  obtain ⟨k, hk, rfl⟩ := List.mem_map.mp hw
  have hk := List.mem_range.mp hk
  match k, hk with
  | 0, _ => exact ws0_1 (List.mem_of_getElem? (i := 207) rfl) rfl
  | 1, _ => exact ws0_1 (List.mem_of_getElem? (i := 209) rfl) rfl
  | 2, _ => exact ws0_1 (List.mem_of_getElem? (i := 211) rfl) rfl
  | k + 3, hk => omega
theorem in0_X1 : ∀ w ∈ wsX10, w ∈ ws0 := by
  intro w hw
  obtain ⟨k, hk, rfl⟩ := List.mem_map.mp hw
  have hk := List.mem_range.mp hk
  match k, hk with
  | 0, _ => exact ws0_1 (List.mem_of_getElem? (i := 78) rfl) rfl
  | 1, _ => exact ws0_1 (List.mem_of_getElem? (i := 80) rfl) rfl
  | 2, _ => exact ws0_1 (List.mem_of_getElem? (i := 82) rfl) rfl
  | k + 3, hk => omega
theorem in0_X2 : ∀ w ∈ wsX20, w ∈ ws0 := by
  intro w hw
  obtain ⟨k, hk, rfl⟩ := List.mem_map.mp hw
  have hk := List.mem_range.mp hk
  match k, hk with
  | 0, _ => exact ws0_1 (List.mem_of_getElem? (i := 236) rfl) rfl
  | 1, _ => exact ws0_1 (List.mem_of_getElem? (i := 238) rfl) rfl
  | 2, _ => exact ws0_2 (List.mem_of_getElem? (i := 0) rfl) rfl
  | 3, _ => exact ws0_2 (List.mem_of_getElem? (i := 2) rfl) rfl
  | 4, _ => exact ws0_2 (List.mem_of_getElem? (i := 4) rfl) rfl
  | 5, _ => exact ws0_2 (List.mem_of_getElem? (i := 6) rfl) rfl
  | 6, _ => exact ws0_2 (List.mem_of_getElem? (i := 8) rfl) rfl
  | 7, _ => exact ws0_2 (List.mem_of_getElem? (i := 10) rfl) rfl
  | 8, _ => exact ws0_2 (List.mem_of_getElem? (i := 12) rfl) rfl
  | k + 9, hk => omega
theorem in0_X3 : ∀ w ∈ wsX30, w ∈ ws0 := by
  intro w hw
  obtain ⟨k, hk, rfl⟩ := List.mem_map.mp hw
  have hk := List.mem_range.mp hk
  match k, hk with
  | 0, _ => exact ws0_1 (List.mem_of_getElem? (i := 116) rfl) rfl
  | 1, _ => exact ws0_1 (List.mem_of_getElem? (i := 118) rfl) rfl
  | 2, _ => exact ws0_1 (List.mem_of_getElem? (i := 120) rfl) rfl
  | 3, _ => exact ws0_1 (List.mem_of_getElem? (i := 122) rfl) rfl
  | 4, _ => exact ws0_1 (List.mem_of_getElem? (i := 124) rfl) rfl
  | 5, _ => exact ws0_1 (List.mem_of_getElem? (i := 126) rfl) rfl
  | 6, _ => exact ws0_1 (List.mem_of_getElem? (i := 128) rfl) rfl
  | k + 7, hk => omega
theorem in0_X4 : ∀ w ∈ wsX40, w ∈ ws0 := by
  intro w hw
  obtain ⟨k, hk, rfl⟩ := List.mem_map.mp hw
  have hk := List.mem_range.mp hk
  match k, hk with
  | 0, _ => exact ws0_1 (List.mem_of_getElem? (i := 143) rfl) rfl
  | 1, _ => exact ws0_1 (List.mem_of_getElem? (i := 145) rfl) rfl
  | 2, _ => exact ws0_1 (List.mem_of_getElem? (i := 147) rfl) rfl
  | 3, _ => exact ws0_1 (List.mem_of_getElem? (i := 149) rfl) rfl
  | 4, _ => exact ws0_1 (List.mem_of_getElem? (i := 151) rfl) rfl
  | k + 5, hk => omega
theorem in0_X5 : ∀ w ∈ wsX50, w ∈ ws0 := by
  intro w hw
  obtain ⟨k, hk, rfl⟩ := List.mem_map.mp hw
  have hk := List.mem_range.mp hk
  match k, hk with
  | 0, _ => exact ws0_1 (List.mem_of_getElem? (i := 173) rfl) rfl
  | 1, _ => exact ws0_1 (List.mem_of_getElem? (i := 175) rfl) rfl
  | 2, _ => exact ws0_1 (List.mem_of_getElem? (i := 177) rfl) rfl
  | 3, _ => exact ws0_1 (List.mem_of_getElem? (i := 179) rfl) rfl
  | 4, _ => exact ws0_1 (List.mem_of_getElem? (i := 181) rfl) rfl
  | 5, _ => exact ws0_1 (List.mem_of_getElem? (i := 183) rfl) rfl
  | 6, _ => exact ws0_1 (List.mem_of_getElem? (i := 185) rfl) rfl
  | 7, _ => exact ws0_1 (List.mem_of_getElem? (i := 187) rfl) rfl
  | 8, _ => exact ws0_1 (List.mem_of_getElem? (i := 189) rfl) rfl
  | 9, _ => exact ws0_1 (List.mem_of_getElem? (i := 191) rfl) rfl
  | k + 10, hk => omega
theorem in0_X6 : ∀ w ∈ wsX60, w ∈ ws0 := by
  intro w hw
  obtain ⟨k, hk, rfl⟩ := List.mem_map.mp hw
  have hk := List.mem_range.mp hk
  match k, hk with
  | 0, _ => exact ws0_1 (List.mem_of_getElem? (i := 49) rfl) rfl
  | 1, _ => exact ws0_1 (List.mem_of_getElem? (i := 51) rfl) rfl
  | 2, _ => exact ws0_1 (List.mem_of_getElem? (i := 53) rfl) rfl
  | 3, _ => exact ws0_1 (List.mem_of_getElem? (i := 55) rfl) rfl
  | 4, _ => exact ws0_1 (List.mem_of_getElem? (i := 57) rfl) rfl
  | 5, _ => exact ws0_1 (List.mem_of_getElem? (i := 59) rfl) rfl
  | k + 6, hk => omega
theorem in0_X7 : ∀ w ∈ wsX70, w ∈ ws0 := by
  intro w hw
  obtain ⟨k, hk, rfl⟩ := List.mem_map.mp hw
  have hk := List.mem_range.mp hk
  match k, hk with
  | 0, _ => exact ws0_2 (List.mem_of_getElem? (i := 25) rfl) rfl
  | 1, _ => exact ws0_2 (List.mem_of_getElem? (i := 27) rfl) rfl
  | 2, _ => exact ws0_2 (List.mem_of_getElem? (i := 29) rfl) rfl
  | 3, _ => exact ws0_2 (List.mem_of_getElem? (i := 31) rfl) rfl
  | 4, _ => exact ws0_2 (List.mem_of_getElem? (i := 33) rfl) rfl
  | 5, _ => exact ws0_2 (List.mem_of_getElem? (i := 35) rfl) rfl
  | 6, _ => exact ws0_2 (List.mem_of_getElem? (i := 37) rfl) rfl
  | 7, _ => exact ws0_2 (List.mem_of_getElem? (i := 39) rfl) rfl
  | 8, _ => exact ws0_2 (List.mem_of_getElem? (i := 41) rfl) rfl
  | k + 9, hk => omega
theorem in0_X8 : ∀ w ∈ wsX80, w ∈ ws0 := by
  intro w hw
  obtain ⟨k, hk, rfl⟩ := List.mem_map.mp hw
  have hk := List.mem_range.mp hk
  match k, hk with
  | 0, _ => exact ws0_3 (List.mem_of_getElem? (i := 160) rfl) rfl
  | 1, _ => exact ws0_3 (List.mem_of_getElem? (i := 162) rfl) rfl
  | 2, _ => exact ws0_3 (List.mem_of_getElem? (i := 164) rfl) rfl
  | 3, _ => exact ws0_3 (List.mem_of_getElem? (i := 166) rfl) rfl
  | 4, _ => exact ws0_3 (List.mem_of_getElem? (i := 168) rfl) rfl
  | 5, _ => exact ws0_3 (List.mem_of_getElem? (i := 170) rfl) rfl
  | 6, _ => exact ws0_3 (List.mem_of_getElem? (i := 172) rfl) rfl
  | 7, _ => exact ws0_3 (List.mem_of_getElem? (i := 174) rfl) rfl
  | 8, _ => exact ws0_3 (List.mem_of_getElem? (i := 176) rfl) rfl
  | 9, _ => exact ws0_3 (List.mem_of_getElem? (i := 178) rfl) rfl
  | 10, _ => exact ws0_3 (List.mem_of_getElem? (i := 180) rfl) rfl
  | 11, _ => exact ws0_3 (List.mem_of_getElem? (i := 182) rfl) rfl
  | 12, _ => exact ws0_3 (List.mem_of_getElem? (i := 184) rfl) rfl
  | 13, _ => exact ws0_3 (List.mem_of_getElem? (i := 186) rfl) rfl
  | 14, _ => exact ws0_3 (List.mem_of_getElem? (i := 188) rfl) rfl
  | k + 15, hk => omega
end
section
theorem dX0_init_0 : decode cX0_init 0 = .ok (.aload_n 0, 1) := by decide +kernel
theorem dX0_init_1 : decode cX0_init 1 = .ok (.invokespecial 3, 3) := by decide +kernel
theorem dX0_init_4 : decode cX0_init 4 = .ok (.aload_n 0, 1) := by decide +kernel
theorem dX0_init_5 : decode cX0_init 5 = .ok (.iconst 4, 1) := by decide +kernel
theorem dX0_init_6 : decode cX0_init 6 = .ok (.anewarray 9, 3) := by decide +kernel
theorem dX0_init_9 : decode cX0_init 9 = .ok (.putfield 11, 3) := by decide +kernel
theorem dX0_init_12 : decode cX0_init 12 = .ok (.iconst 0, 1) := by decide +kernel
theorem dX0_init_13 : decode cX0_init 13 = .ok (.istore_n 1, 1) := by decide +kernel
theorem dX0_init_14 : decode cX0_init 14 = .ok (.iload_n 1, 1) := by decide +kernel
theorem dX0_init_15 : decode cX0_init 15 = .ok (.iconst 4, 1) := by decide +kernel
theorem dX0_init_16 : decode cX0_init 16 = .ok (.if_icmp .ge 22, 3) := by decide +kernel
theorem dX0_init_19 : decode cX0_init 19 = .ok (.aload_n 0, 1) := by decide +kernel
theorem dX0_init_20 : decode cX0_init 20 = .ok (.getfield 11, 3) := by decide +kernel
theorem dX0_init_23 : decode cX0_init 23 = .ok (.iload_n 1, 1) := by decide +kernel
theorem dX0_init_24 : decode cX0_init 24 = .ok (.new 9, 3) := by decide +kernel
theorem dX0_init_27 : decode cX0_init 27 = .ok (.dup, 1) := by decide +kernel
theorem dX0_init_28 : decode cX0_init 28 = .ok (.invokespecial 17, 3) := by decide +kernel
theorem dX0_init_31 : decode cX0_init 31 = .ok (.aastore, 1) := by decide +kernel
theorem dX0_init_32 : decode cX0_init 32 = .ok (.iinc 1 1, 3) := by decide +kernel
theorem dX0_init_35 : decode cX0_init 35 = .ok (.goto (-21), 3) := by decide +kernel
theorem dX0_init_38 : decode cX0_init 38 = .ok (.return_, 1) := by decide +kernel
theorem dX0_remember_0 : decode cX0_remember 0 = .ok (.aload_n 0, 1) := by decide +kernel
theorem dX0_remember_1 : decode cX0_remember 1 = .ok (.getfield 18, 3) := by decide +kernel
theorem dX0_remember_4 : decode cX0_remember 4 = .ok (.iconst 4, 1) := by decide +kernel
theorem dX0_remember_5 : decode cX0_remember 5 = .ok (.if_icmp .ne 25, 3) := by decide +kernel
theorem dX0_remember_8 : decode cX0_remember 8 = .ok (.aload_n 0, 1) := by decide +kernel
theorem dX0_remember_9 : decode cX0_remember 9 = .ok (.aload_n 0, 1) := by decide +kernel
theorem dX0_remember_10 : decode cX0_remember 10 = .ok (.getfield 22, 3) := by decide +kernel
theorem dX0_remember_13 : decode cX0_remember 13 = .ok (.iconst 1, 1) := by decide +kernel
theorem dX0_remember_14 : decode cX0_remember 14 = .ok (.iadd, 1) := by decide +kernel
theorem dX0_remember_15 : decode cX0_remember 15 = .ok (.iconst 4, 1) := by decide +kernel
theorem dX0_remember_16 : decode cX0_remember 16 = .ok (.irem, 1) := by decide +kernel
theorem dX0_remember_17 : decode cX0_remember 17 = .ok (.putfield 22, 3) := by decide +kernel
theorem dX0_remember_20 : decode cX0_remember 20 = .ok (.aload_n 0, 1) := by decide +kernel
theorem dX0_remember_21 : decode cX0_remember 21 = .ok (.dup, 1) := by decide +kernel
theorem dX0_remember_22 : decode cX0_remember 22 = .ok (.getfield 18, 3) := by decide +kernel
theorem dX0_remember_25 : decode cX0_remember 25 = .ok (.iconst 1, 1) := by decide +kernel
theorem dX0_remember_26 : decode cX0_remember 26 = .ok (.isub, 1) := by decide +kernel
theorem dX0_remember_27 : decode cX0_remember 27 = .ok (.putfield 18, 3) := by decide +kernel
theorem dX0_remember_30 : decode cX0_remember 30 = .ok (.aload_n 0, 1) := by decide +kernel
theorem dX0_remember_31 : decode cX0_remember 31 = .ok (.getfield 11, 3) := by decide +kernel
theorem dX0_remember_34 : decode cX0_remember 34 = .ok (.aload_n 0, 1) := by decide +kernel
theorem dX0_remember_35 : decode cX0_remember 35 = .ok (.getfield 22, 3) := by decide +kernel
theorem dX0_remember_38 : decode cX0_remember 38 = .ok (.aload_n 0, 1) := by decide +kernel
theorem dX0_remember_39 : decode cX0_remember 39 = .ok (.getfield 18, 3) := by decide +kernel
theorem dX0_remember_42 : decode cX0_remember 42 = .ok (.iadd, 1) := by decide +kernel
theorem dX0_remember_43 : decode cX0_remember 43 = .ok (.iconst 4, 1) := by decide +kernel
theorem dX0_remember_44 : decode cX0_remember 44 = .ok (.irem, 1) := by decide +kernel
theorem dX0_remember_45 : decode cX0_remember 45 = .ok (.aaload, 1) := by decide +kernel
theorem dX0_remember_46 : decode cX0_remember 46 = .ok (.aload_n 1, 1) := by decide +kernel
theorem dX0_remember_47 : decode cX0_remember 47 = .ok (.invokevirtual 25, 3) := by decide +kernel
theorem dX0_remember_50 : decode cX0_remember 50 = .ok (.aload_n 0, 1) := by decide +kernel
theorem dX0_remember_51 : decode cX0_remember 51 = .ok (.dup, 1) := by decide +kernel
theorem dX0_remember_52 : decode cX0_remember 52 = .ok (.getfield 18, 3) := by decide +kernel
theorem dX0_remember_55 : decode cX0_remember 55 = .ok (.iconst 1, 1) := by decide +kernel
theorem dX0_remember_56 : decode cX0_remember 56 = .ok (.iadd, 1) := by decide +kernel
theorem dX0_remember_57 : decode cX0_remember 57 = .ok (.putfield 18, 3) := by decide +kernel
theorem dX0_remember_60 : decode cX0_remember 60 = .ok (.return_, 1) := by decide +kernel
theorem dX0_takeBack_0 : decode cX0_takeBack 0 = .ok (.aload_n 0, 1) := by decide +kernel
theorem dX0_takeBack_1 : decode cX0_takeBack 1 = .ok (.getfield 18, 3) := by decide +kernel
theorem dX0_takeBack_4 : decode cX0_takeBack 4 = .ok (.ifCond .ne 6, 3) := by decide +kernel
theorem dX0_takeBack_7 : decode cX0_takeBack 7 = .ok (.bipush (-5), 2) := by decide +kernel
theorem dX0_takeBack_9 : decode cX0_takeBack 9 = .ok (.ireturn, 1) := by decide +kernel
theorem dX0_takeBack_10 : decode cX0_takeBack 10 = .ok (.aload_n 0, 1) := by decide +kernel
theorem dX0_takeBack_11 : decode cX0_takeBack 11 = .ok (.dup, 1) := by decide +kernel
theorem dX0_takeBack_12 : decode cX0_takeBack 12 = .ok (.getfield 18, 3) := by decide +kernel
theorem dX0_takeBack_15 : decode cX0_takeBack 15 = .ok (.iconst 1, 1) := by decide +kernel
theorem dX0_takeBack_16 : decode cX0_takeBack 16 = .ok (.isub, 1) := by decide +kernel
theorem dX0_takeBack_17 : decode cX0_takeBack 17 = .ok (.putfield 18, 3) := by decide +kernel
theorem dX0_takeBack_20 : decode cX0_takeBack 20 = .ok (.aload_n 1, 1) := by decide +kernel
theorem dX0_takeBack_21 : decode cX0_takeBack 21 = .ok (.aload_n 0, 1) := by decide +kernel
theorem dX0_takeBack_22 : decode cX0_takeBack 22 = .ok (.getfield 11, 3) := by decide +kernel
theorem dX0_takeBack_25 : decode cX0_takeBack 25 = .ok (.aload_n 0, 1) := by decide +kernel
theorem dX0_takeBack_26 : decode cX0_takeBack 26 = .ok (.getfield 22, 3) := by decide +kernel
theorem dX0_takeBack_29 : decode cX0_takeBack 29 = .ok (.aload_n 0, 1) := by decide +kernel
theorem dX0_takeBack_30 : decode cX0_takeBack 30 = .ok (.getfield 18, 3) := by decide +kernel
theorem dX0_takeBack_33 : decode cX0_takeBack 33 = .ok (.iadd, 1) := by decide +kernel
theorem dX0_takeBack_34 : decode cX0_takeBack 34 = .ok (.iconst 4, 1) := by decide +kernel
theorem dX0_takeBack_35 : decode cX0_takeBack 35 = .ok (.irem, 1) := by decide +kernel
theorem dX0_takeBack_36 : decode cX0_takeBack 36 = .ok (.aaload, 1) := by decide +kernel
theorem dX0_takeBack_37 : decode cX0_takeBack 37 = .ok (.invokevirtual 25, 3) := by decide +kernel
theorem dX0_takeBack_40 : decode cX0_takeBack 40 = .ok (.aload_n 0, 1) := by decide +kernel
theorem dX0_takeBack_41 : decode cX0_takeBack 41 = .ok (.getfield 18, 3) := by decide +kernel
theorem dX0_takeBack_44 : decode cX0_takeBack 44 = .ok (.ireturn, 1) := by decide +kernel
theorem dX1_init_0 : decode cX1_init 0 = .ok (.aload_n 0, 1) := by decide +kernel
theorem dX1_init_1 : decode cX1_init 1 = .ok (.invokespecial 3, 3) := by decide +kernel
theorem dX1_init_4 : decode cX1_init 4 = .ok (.aload_n 0, 1) := by decide +kernel
theorem dX1_init_5 : decode cX1_init 5 = .ok (.sipush 140, 3) := by decide +kernel
theorem dX1_init_8 : decode cX1_init 8 = .ok (.newarray .int, 2) := by decide +kernel
theorem dX1_init_10 : decode cX1_init 10 = .ok (.putfield 9, 3) := by decide +kernel
theorem dX1_init_13 : decode cX1_init 13 = .ok (.aload_n 0, 1) := by decide +kernel
theorem dX1_init_14 : decode cX1_init 14 = .ok (.sipush 140, 3) := by decide +kernel
theorem dX1_init_17 : decode cX1_init 17 = .ok (.newarray .int, 2) := by decide +kernel
theorem dX1_init_19 : decode cX1_init 19 = .ok (.putfield 15, 3) := by decide +kernel
theorem dX1_init_22 : decode cX1_init 22 = .ok (.aload_n 0, 1) := by decide +kernel
theorem dX1_init_23 : decode cX1_init 23 = .ok (.sipush 140, 3) := by decide +kernel
theorem dX1_init_26 : decode cX1_init 26 = .ok (.newarray .int, 2) := by decide +kernel
theorem dX1_init_28 : decode cX1_init 28 = .ok (.putfield 18, 3) := by decide +kernel
theorem dX1_init_31 : decode cX1_init 31 = .ok (.return_, 1) := by decide +kernel
theorem dX1_copyFrom_0 : decode cX1_copyFrom 0 = .ok (.aload_n 1, 1) := by decide +kernel
theorem dX1_copyFrom_1 : decode cX1_copyFrom 1 = .ok (.getfield 9, 3) := by decide +kernel
theorem dX1_copyFrom_4 : decode cX1_copyFrom 4 = .ok (.iconst 0, 1) := by decide +kernel
theorem dX1_copyFrom_5 : decode cX1_copyFrom 5 = .ok (.aload_n 0, 1) := by decide +kernel
theorem dX1_copyFrom_6 : decode cX1_copyFrom 6 = .ok (.getfield 9, 3) := by decide +kernel
theorem dX1_copyFrom_9 : decode cX1_copyFrom 9 = .ok (.iconst 0, 1) := by decide +kernel
theorem dX1_copyFrom_10 : decode cX1_copyFrom 10 = .ok (.sipush 140, 3) := by decide +kernel
theorem dX1_copyFrom_13 : decode cX1_copyFrom 13 = .ok (.invokestatic 21, 3) := by decide +kernel
theorem dX1_copyFrom_16 : decode cX1_copyFrom 16 = .ok (.aload_n 1, 1) := by decide +kernel
theorem dX1_copyFrom_17 : decode cX1_copyFrom 17 = .ok (.getfield 15, 3) := by decide +kernel
theorem dX1_copyFrom_20 : decode cX1_copyFrom 20 = .ok (.iconst 0, 1) := by decide +kernel
theorem dX1_copyFrom_21 : decode cX1_copyFrom 21 = .ok (.aload_n 0, 1) := by decide +kernel
theorem dX1_copyFrom_22 : decode cX1_copyFrom 22 = .ok (.getfield 15, 3) := by decide +kernel
theorem dX1_copyFrom_25 : decode cX1_copyFrom 25 = .ok (.iconst 0, 1) := by decide +kernel
theorem dX1_copyFrom_26 : decode cX1_copyFrom 26 = .ok (.sipush 140, 3) := by decide +kernel
theorem dX1_copyFrom_29 : decode cX1_copyFrom 29 = .ok (.invokestatic 21, 3) := by decide +kernel
theorem dX1_copyFrom_32 : decode cX1_copyFrom 32 = .ok (.aload_n 1, 1) := by decide +kernel
theorem dX1_copyFrom_33 : decode cX1_copyFrom 33 = .ok (.getfield 18, 3) := by decide +kernel
theorem dX1_copyFrom_36 : decode cX1_copyFrom 36 = .ok (.iconst 0, 1) := by decide +kernel
theorem dX1_copyFrom_37 : decode cX1_copyFrom 37 = .ok (.aload_n 0, 1) := by decide +kernel
theorem dX1_copyFrom_38 : decode cX1_copyFrom 38 = .ok (.getfield 18, 3) := by decide +kernel
theorem dX1_copyFrom_41 : decode cX1_copyFrom 41 = .ok (.iconst 0, 1) := by decide +kernel
theorem dX1_copyFrom_42 : decode cX1_copyFrom 42 = .ok (.sipush 140, 3) := by decide +kernel
theorem dX1_copyFrom_45 : decode cX1_copyFrom 45 = .ok (.invokestatic 21, 3) := by decide +kernel
theorem dX1_copyFrom_48 : decode cX1_copyFrom 48 = .ok (.return_, 1) := by decide +kernel
theorem dX1_stanceOf_0 : decode cX1_stanceOf 0 = .ok (.aload_n 0, 1) := by decide +kernel
theorem dX1_stanceOf_1 : decode cX1_stanceOf 1 = .ok (.getfield 9, 3) := by decide +kernel
theorem dX1_stanceOf_4 : decode cX1_stanceOf 4 = .ok (.iload_n 1, 1) := by decide +kernel
theorem dX1_stanceOf_5 : decode cX1_stanceOf 5 = .ok (.bipush 20, 2) := by decide +kernel
theorem dX1_stanceOf_7 : decode cX1_stanceOf 7 = .ok (.imul, 1) := by decide +kernel
theorem dX1_stanceOf_8 : decode cX1_stanceOf 8 = .ok (.iload_n 2, 1) := by decide +kernel
theorem dX1_stanceOf_9 : decode cX1_stanceOf 9 = .ok (.iadd, 1) := by decide +kernel
theorem dX1_stanceOf_10 : decode cX1_stanceOf 10 = .ok (.iaload, 1) := by decide +kernel
theorem dX1_stanceOf_11 : decode cX1_stanceOf 11 = .ok (.ireturn, 1) := by decide +kernel
theorem dX1_strengthOf_0 : decode cX1_strengthOf 0 = .ok (.aload_n 0, 1) := by decide +kernel
theorem dX1_strengthOf_1 : decode cX1_strengthOf 1 = .ok (.getfield 15, 3) := by decide +kernel
theorem dX1_strengthOf_4 : decode cX1_strengthOf 4 = .ok (.iload_n 1, 1) := by decide +kernel
theorem dX1_strengthOf_5 : decode cX1_strengthOf 5 = .ok (.bipush 20, 2) := by decide +kernel
theorem dX1_strengthOf_7 : decode cX1_strengthOf 7 = .ok (.imul, 1) := by decide +kernel
theorem dX1_strengthOf_8 : decode cX1_strengthOf 8 = .ok (.iload_n 2, 1) := by decide +kernel
theorem dX1_strengthOf_9 : decode cX1_strengthOf 9 = .ok (.iadd, 1) := by decide +kernel
theorem dX1_strengthOf_10 : decode cX1_strengthOf 10 = .ok (.iaload, 1) := by decide +kernel
theorem dX1_strengthOf_11 : decode cX1_strengthOf 11 = .ok (.ireturn, 1) := by decide +kernel
theorem dX1_size_0 : decode cX1_size 0 = .ok (.aload_n 0, 1) := by decide +kernel
theorem dX1_size_1 : decode cX1_size 1 = .ok (.sipush 140, 3) := by decide +kernel
theorem dX1_size_4 : decode cX1_size 4 = .ok (.invokevirtual 27, 3) := by decide +kernel
theorem dX1_size_7 : decode cX1_size 7 = .ok (.ireturn, 1) := by decide +kernel
theorem dX1_rankOf_0 : decode cX1_rankOf 0 = .ok (.iconst 0, 1) := by decide +kernel
theorem dX1_rankOf_1 : decode cX1_rankOf 1 = .ok (.istore_n 2, 1) := by decide +kernel
theorem dX1_rankOf_2 : decode cX1_rankOf 2 = .ok (.iconst 0, 1) := by decide +kernel
theorem dX1_rankOf_3 : decode cX1_rankOf 3 = .ok (.istore_n 3, 1) := by decide +kernel
theorem dX1_rankOf_4 : decode cX1_rankOf 4 = .ok (.iload_n 3, 1) := by decide +kernel
theorem dX1_rankOf_5 : decode cX1_rankOf 5 = .ok (.iload_n 1, 1) := by decide +kernel
theorem dX1_rankOf_6 : decode cX1_rankOf 6 = .ok (.if_icmp .ge 28, 3) := by decide +kernel
theorem dX1_rankOf_9 : decode cX1_rankOf 9 = .ok (.iload_n 3, 1) := by decide +kernel
theorem dX1_rankOf_10 : decode cX1_rankOf 10 = .ok (.sipush 140, 3) := by decide +kernel
theorem dX1_rankOf_13 : decode cX1_rankOf 13 = .ok (.if_icmp .ge 21, 3) := by decide +kernel
theorem dX1_rankOf_16 : decode cX1_rankOf 16 = .ok (.aload_n 0, 1) := by decide +kernel
theorem dX1_rankOf_17 : decode cX1_rankOf 17 = .ok (.getfield 15, 3) := by decide +kernel
theorem dX1_rankOf_20 : decode cX1_rankOf 20 = .ok (.iload_n 3, 1) := by decide +kernel
theorem dX1_rankOf_21 : decode cX1_rankOf 21 = .ok (.iaload, 1) := by decide +kernel
theorem dX1_rankOf_22 : decode cX1_rankOf 22 = .ok (.ifCond .le 6, 3) := by decide +kernel
theorem dX1_rankOf_25 : decode cX1_rankOf 25 = .ok (.iinc 2 1, 3) := by decide +kernel
theorem dX1_rankOf_28 : decode cX1_rankOf 28 = .ok (.iinc 3 1, 3) := by decide +kernel
theorem dX1_rankOf_31 : decode cX1_rankOf 31 = .ok (.goto (-27), 3) := by decide +kernel
theorem dX1_rankOf_34 : decode cX1_rankOf 34 = .ok (.iload_n 2, 1) := by decide +kernel
theorem dX1_rankOf_35 : decode cX1_rankOf 35 = .ok (.ireturn, 1) := by decide +kernel
theorem dX1_spotAt_0 : decode cX1_spotAt 0 = .ok (.iconst 0, 1) := by decide +kernel
theorem dX1_spotAt_1 : decode cX1_spotAt 1 = .ok (.istore_n 2, 1) := by decide +kernel
theorem dX1_spotAt_2 : decode cX1_spotAt 2 = .ok (.iconst 0, 1) := by decide +kernel
theorem dX1_spotAt_3 : decode cX1_spotAt 3 = .ok (.istore_n 3, 1) := by decide +kernel
theorem dX1_spotAt_4 : decode cX1_spotAt 4 = .ok (.iload_n 3, 1) := by decide +kernel
theorem dX1_spotAt_5 : decode cX1_spotAt 5 = .ok (.sipush 140, 3) := by decide +kernel
theorem dX1_spotAt_8 : decode cX1_spotAt 8 = .ok (.if_icmp .ge 28, 3) := by decide +kernel
theorem dX1_spotAt_11 : decode cX1_spotAt 11 = .ok (.aload_n 0, 1) := by decide +kernel
theorem dX1_spotAt_12 : decode cX1_spotAt 12 = .ok (.getfield 15, 3) := by decide +kernel
theorem dX1_spotAt_15 : decode cX1_spotAt 15 = .ok (.iload_n 3, 1) := by decide +kernel
theorem dX1_spotAt_16 : decode cX1_spotAt 16 = .ok (.iaload, 1) := by decide +kernel
theorem dX1_spotAt_17 : decode cX1_spotAt 17 = .ok (.ifCond .le 13, 3) := by decide +kernel
theorem dX1_spotAt_20 : decode cX1_spotAt 20 = .ok (.iload_n 2, 1) := by decide +kernel
theorem dX1_spotAt_21 : decode cX1_spotAt 21 = .ok (.iload_n 1, 1) := by decide +kernel
theorem dX1_spotAt_22 : decode cX1_spotAt 22 = .ok (.if_icmp .ne 5, 3) := by decide +kernel
theorem dX1_spotAt_25 : decode cX1_spotAt 25 = .ok (.iload_n 3, 1) := by decide +kernel
theorem dX1_spotAt_26 : decode cX1_spotAt 26 = .ok (.ireturn, 1) := by decide +kernel
theorem dX1_spotAt_27 : decode cX1_spotAt 27 = .ok (.iinc 2 1, 3) := by decide +kernel
theorem dX1_spotAt_30 : decode cX1_spotAt 30 = .ok (.iinc 3 1, 3) := by decide +kernel
theorem dX1_spotAt_33 : decode cX1_spotAt 33 = .ok (.goto (-29), 3) := by decide +kernel
theorem dX1_spotAt_36 : decode cX1_spotAt 36 = .ok (.bipush (-5), 2) := by decide +kernel
theorem dX1_spotAt_38 : decode cX1_spotAt 38 = .ok (.ireturn, 1) := by decide +kernel
theorem dX1_rulingPlace_0 : decode cX1_rulingPlace 0 = .ok (.aload_n 0, 1) := by decide +kernel
theorem dX1_rulingPlace_1 : decode cX1_rulingPlace 1 = .ok (.iload_n 1, 1) := by decide +kernel
theorem dX1_rulingPlace_2 : decode cX1_rulingPlace 2 = .ok (.iload_n 2, 1) := by decide +kernel
theorem dX1_rulingPlace_3 : decode cX1_rulingPlace 3 = .ok (.invokevirtual 31, 3) := by decide +kernel
theorem dX1_rulingPlace_6 : decode cX1_rulingPlace 6 = .ok (.istore_n 3, 1) := by decide +kernel
theorem dX1_rulingPlace_7 : decode cX1_rulingPlace 7 = .ok (.aload_n 0, 1) := by decide +kernel
theorem dX1_rulingPlace_8 : decode cX1_rulingPlace 8 = .ok (.bipush 6, 2) := by decide +kernel
theorem dX1_rulingPlace_10 : decode cX1_rulingPlace 10 = .ok (.iload_n 2, 1) := by decide +kernel
theorem dX1_rulingPlace_11 : decode cX1_rulingPlace 11 = .ok (.invokevirtual 31, 3) := by decide +kernel
theorem dX1_rulingPlace_14 : decode cX1_rulingPlace 14 = .ok (.istore 4, 2) := by decide +kernel
theorem dX1_rulingPlace_16 : decode cX1_rulingPlace 16 = .ok (.iload_n 3, 1) := by decide +kernel
theorem dX1_rulingPlace_17 : decode cX1_rulingPlace 17 = .ok (.ifCond .ne 11, 3) := by decide +kernel
theorem dX1_rulingPlace_20 : decode cX1_rulingPlace 20 = .ok (.iload 4, 2) := by decide +kernel
theorem dX1_rulingPlace_22 : decode cX1_rulingPlace 22 = .ok (.ifCond .ne 6, 3) := by decide +kernel
theorem dX1_rulingPlace_25 : decode cX1_rulingPlace 25 = .ok (.bipush (-5), 2) := by decide +kernel
theorem dX1_rulingPlace_27 : decode cX1_rulingPlace 27 = .ok (.ireturn, 1) := by decide +kernel
theorem dX1_rulingPlace_28 : decode cX1_rulingPlace 28 = .ok (.iload_n 3, 1) := by decide +kernel
theorem dX1_rulingPlace_29 : decode cX1_rulingPlace 29 = .ok (.iload 4, 2) := by decide +kernel
theorem dX1_rulingPlace_31 : decode cX1_rulingPlace 31 = .ok (.if_icmp .lt 7, 3) := by decide +kernel
theorem dX1_rulingPlace_34 : decode cX1_rulingPlace 34 = .ok (.iload_n 1, 1) := by decide +kernel
theorem dX1_rulingPlace_35 : decode cX1_rulingPlace 35 = .ok (.goto 5, 3) := by decide +kernel
theorem dX1_rulingPlace_38 : decode cX1_rulingPlace 38 = .ok (.bipush 6, 2) := by decide +kernel
theorem dX1_rulingPlace_40 : decode cX1_rulingPlace 40 = .ok (.ireturn, 1) := by decide +kernel
theorem dX1_isForbidden_0 : decode cX1_isForbidden 0 = .ok (.aload_n 0, 1) := by decide +kernel
theorem dX1_isForbidden_1 : decode cX1_isForbidden 1 = .ok (.iload_n 1, 1) := by decide +kernel
theorem dX1_isForbidden_2 : decode cX1_isForbidden 2 = .ok (.iload_n 2, 1) := by decide +kernel
theorem dX1_isForbidden_3 : decode cX1_isForbidden 3 = .ok (.invokevirtual 35, 3) := by decide +kernel
theorem dX1_isForbidden_6 : decode cX1_isForbidden 6 = .ok (.istore_n 3, 1) := by decide +kernel
theorem dX1_isForbidden_7 : decode cX1_isForbidden 7 = .ok (.iload_n 3, 1) := by decide +kernel
theorem dX1_isForbidden_8 : decode cX1_isForbidden 8 = .ok (.bipush (-5), 2) := by decide +kernel
theorem dX1_isForbidden_10 : decode cX1_isForbidden 10 = .ok (.if_icmp .eq 16, 3) := by decide +kernel
theorem dX1_isForbidden_13 : decode cX1_isForbidden 13 = .ok (.aload_n 0, 1) := by decide +kernel
theorem dX1_isForbidden_14 : decode cX1_isForbidden 14 = .ok (.iload_n 3, 1) := by decide +kernel
theorem dX1_isForbidden_15 : decode cX1_isForbidden 15 = .ok (.iload_n 2, 1) := by decide +kernel
theorem dX1_isForbidden_16 : decode cX1_isForbidden 16 = .ok (.invokevirtual 38, 3) := by decide +kernel
theorem dX1_isForbidden_19 : decode cX1_isForbidden 19 = .ok (.ifCond .ne 7, 3) := by decide +kernel
theorem dX1_isForbidden_22 : decode cX1_isForbidden 22 = .ok (.iconst 1, 1) := by decide +kernel
theorem dX1_isForbidden_23 : decode cX1_isForbidden 23 = .ok (.goto 4, 3) := by decide +kernel
theorem dX1_isForbidden_26 : decode cX1_isForbidden 26 = .ok (.iconst 0, 1) := by decide +kernel
theorem dX1_isForbidden_27 : decode cX1_isForbidden 27 = .ok (.ireturn, 1) := by decide +kernel
theorem dX1_forbidding_0 : decode cX1_forbidding 0 = .ok (.iconst 0, 1) := by decide +kernel
theorem dX1_forbidding_1 : decode cX1_forbidding 1 = .ok (.istore_n 1, 1) := by decide +kernel
theorem dX1_forbidding_2 : decode cX1_forbidding 2 = .ok (.iconst 0, 1) := by decide +kernel
theorem dX1_forbidding_3 : decode cX1_forbidding 3 = .ok (.istore_n 2, 1) := by decide +kernel
theorem dX1_forbidding_4 : decode cX1_forbidding 4 = .ok (.iload_n 2, 1) := by decide +kernel
theorem dX1_forbidding_5 : decode cX1_forbidding 5 = .ok (.sipush 140, 3) := by decide +kernel
theorem dX1_forbidding_8 : decode cX1_forbidding 8 = .ok (.if_icmp .ge 30, 3) := by decide +kernel
theorem dX1_forbidding_11 : decode cX1_forbidding 11 = .ok (.aload_n 0, 1) := by decide +kernel
theorem dX1_forbidding_12 : decode cX1_forbidding 12 = .ok (.getfield 15, 3) := by decide +kernel
theorem dX1_forbidding_15 : decode cX1_forbidding 15 = .ok (.iload_n 2, 1) := by decide +kernel
theorem dX1_forbidding_16 : decode cX1_forbidding 16 = .ok (.iaload, 1) := by decide +kernel
theorem dX1_forbidding_17 : decode cX1_forbidding 17 = .ok (.ifCond .le 15, 3) := by decide +kernel
theorem dX1_forbidding_20 : decode cX1_forbidding 20 = .ok (.aload_n 0, 1) := by decide +kernel
theorem dX1_forbidding_21 : decode cX1_forbidding 21 = .ok (.getfield 9, 3) := by decide +kernel
theorem dX1_forbidding_24 : decode cX1_forbidding 24 = .ok (.iload_n 2, 1) := by decide +kernel
theorem dX1_forbidding_25 : decode cX1_forbidding 25 = .ok (.iaload, 1) := by decide +kernel
theorem dX1_forbidding_26 : decode cX1_forbidding 26 = .ok (.ifCond .ne 6, 3) := by decide +kernel
theorem dX1_forbidding_29 : decode cX1_forbidding 29 = .ok (.iinc 1 1, 3) := by decide +kernel
theorem dX1_forbidding_32 : decode cX1_forbidding 32 = .ok (.iinc 2 1, 3) := by decide +kernel
theorem dX1_forbidding_35 : decode cX1_forbidding 35 = .ok (.goto (-31), 3) := by decide +kernel
theorem dX1_forbidding_38 : decode cX1_forbidding 38 = .ok (.iload_n 1, 1) := by decide +kernel
theorem dX1_forbidding_39 : decode cX1_forbidding 39 = .ok (.ireturn, 1) := by decide +kernel
theorem dX1_forbiddenDoings_0 : decode cX1_forbiddenDoings 0 = .ok (.iconst 0, 1) := by decide +kernel
theorem dX1_forbiddenDoings_1 : decode cX1_forbiddenDoings 1 = .ok (.istore_n 1, 1) := by decide +kernel
theorem dX1_forbiddenDoings_2 : decode cX1_forbiddenDoings 2 = .ok (.iconst 0, 1) := by decide +kernel
theorem dX1_forbiddenDoings_3 : decode cX1_forbiddenDoings 3 = .ok (.istore_n 2, 1) := by decide +kernel
theorem dX1_forbiddenDoings_4 : decode cX1_forbiddenDoings 4 = .ok (.iload_n 2, 1) := by decide +kernel
theorem dX1_forbiddenDoings_5 : decode cX1_forbiddenDoings 5 = .ok (.bipush 6, 2) := by decide +kernel
theorem dX1_forbiddenDoings_7 : decode cX1_forbiddenDoings 7 = .ok (.if_icmp .ge 35, 3) := by decide +kernel
theorem dX1_forbiddenDoings_10 : decode cX1_forbiddenDoings 10 = .ok (.iconst 0, 1) := by decide +kernel
theorem dX1_forbiddenDoings_11 : decode cX1_forbiddenDoings 11 = .ok (.istore_n 3, 1) := by decide +kernel
theorem dX1_forbiddenDoings_12 : decode cX1_forbiddenDoings 12 = .ok (.iload_n 3, 1) := by decide +kernel
theorem dX1_forbiddenDoings_13 : decode cX1_forbiddenDoings 13 = .ok (.bipush 20, 2) := by decide +kernel
theorem dX1_forbiddenDoings_15 : decode cX1_forbiddenDoings 15 = .ok (.if_icmp .ge 21, 3) := by decide +kernel
theorem dX1_forbiddenDoings_18 : decode cX1_forbiddenDoings 18 = .ok (.aload_n 0, 1) := by decide +kernel
theorem dX1_forbiddenDoings_19 : decode cX1_forbiddenDoings 19 = .ok (.iload_n 2, 1) := by decide +kernel
theorem dX1_forbiddenDoings_20 : decode cX1_forbiddenDoings 20 = .ok (.iload_n 3, 1) := by decide +kernel
theorem dX1_forbiddenDoings_21 : decode cX1_forbiddenDoings 21 = .ok (.invokevirtual 41, 3) := by decide +kernel
theorem dX1_forbiddenDoings_24 : decode cX1_forbiddenDoings 24 = .ok (.ifCond .eq 6, 3) := by decide +kernel
theorem dX1_forbiddenDoings_27 : decode cX1_forbiddenDoings 27 = .ok (.iinc 1 1, 3) := by decide +kernel
theorem dX1_forbiddenDoings_30 : decode cX1_forbiddenDoings 30 = .ok (.iinc 3 1, 3) := by decide +kernel
theorem dX1_forbiddenDoings_33 : decode cX1_forbiddenDoings 33 = .ok (.goto (-21), 3) := by decide +kernel
theorem dX1_forbiddenDoings_36 : decode cX1_forbiddenDoings 36 = .ok (.iinc 2 1, 3) := by decide +kernel
theorem dX1_forbiddenDoings_39 : decode cX1_forbiddenDoings 39 = .ok (.goto (-35), 3) := by decide +kernel
theorem dX1_forbiddenDoings_42 : decode cX1_forbiddenDoings 42 = .ok (.iload_n 1, 1) := by decide +kernel
theorem dX1_forbiddenDoings_43 : decode cX1_forbiddenDoings 43 = .ok (.ireturn, 1) := by decide +kernel
theorem dX1_oldestSpot_0 : decode cX1_oldestSpot 0 = .ok (.bipush (-5), 2) := by decide +kernel
theorem dX1_oldestSpot_2 : decode cX1_oldestSpot 2 = .ok (.istore_n 2, 1) := by decide +kernel
theorem dX1_oldestSpot_3 : decode cX1_oldestSpot 3 = .ok (.iconst 0, 1) := by decide +kernel
theorem dX1_oldestSpot_4 : decode cX1_oldestSpot 4 = .ok (.istore_n 3, 1) := by decide +kernel
theorem dX1_oldestSpot_5 : decode cX1_oldestSpot 5 = .ok (.iload_n 3, 1) := by decide +kernel
theorem dX1_oldestSpot_6 : decode cX1_oldestSpot 6 = .ok (.sipush 140, 3) := by decide +kernel
theorem dX1_oldestSpot_9 : decode cX1_oldestSpot 9 = .ok (.if_icmp .ge 60, 3) := by decide +kernel
theorem dX1_oldestSpot_12 : decode cX1_oldestSpot 12 = .ok (.aload_n 0, 1) := by decide +kernel
theorem dX1_oldestSpot_13 : decode cX1_oldestSpot 13 = .ok (.iload_n 1, 1) := by decide +kernel
theorem dX1_oldestSpot_14 : decode cX1_oldestSpot 14 = .ok (.iload_n 3, 1) := by decide +kernel
theorem dX1_oldestSpot_15 : decode cX1_oldestSpot 15 = .ok (.bipush 20, 2) := by decide +kernel
theorem dX1_oldestSpot_17 : decode cX1_oldestSpot 17 = .ok (.irem, 1) := by decide +kernel
theorem dX1_oldestSpot_18 : decode cX1_oldestSpot 18 = .ok (.invokevirtual 35, 3) := by decide +kernel
theorem dX1_oldestSpot_21 : decode cX1_oldestSpot 21 = .ok (.iload_n 3, 1) := by decide +kernel
theorem dX1_oldestSpot_22 : decode cX1_oldestSpot 22 = .ok (.bipush 20, 2) := by decide +kernel
theorem dX1_oldestSpot_24 : decode cX1_oldestSpot 24 = .ok (.idiv, 1) := by decide +kernel
theorem dX1_oldestSpot_25 : decode cX1_oldestSpot 25 = .ok (.if_icmp .ne 7, 3) := by decide +kernel
theorem dX1_oldestSpot_28 : decode cX1_oldestSpot 28 = .ok (.iconst 1, 1) := by decide +kernel
theorem dX1_oldestSpot_29 : decode cX1_oldestSpot 29 = .ok (.goto 4, 3) := by decide +kernel
theorem dX1_oldestSpot_32 : decode cX1_oldestSpot 32 = .ok (.iconst 0, 1) := by decide +kernel
theorem dX1_oldestSpot_33 : decode cX1_oldestSpot 33 = .ok (.istore 4, 2) := by decide +kernel
theorem dX1_oldestSpot_35 : decode cX1_oldestSpot 35 = .ok (.iload 4, 2) := by decide +kernel
theorem dX1_oldestSpot_37 : decode cX1_oldestSpot 37 = .ok (.ifCond .eq 26, 3) := by decide +kernel
theorem dX1_oldestSpot_40 : decode cX1_oldestSpot 40 = .ok (.iload_n 2, 1) := by decide +kernel
theorem dX1_oldestSpot_41 : decode cX1_oldestSpot 41 = .ok (.bipush (-5), 2) := by decide +kernel
theorem dX1_oldestSpot_43 : decode cX1_oldestSpot 43 = .ok (.if_icmp .eq 18, 3) := by decide +kernel
theorem dX1_oldestSpot_46 : decode cX1_oldestSpot 46 = .ok (.aload_n 0, 1) := by decide +kernel
theorem dX1_oldestSpot_47 : decode cX1_oldestSpot 47 = .ok (.getfield 18, 3) := by decide +kernel
theorem dX1_oldestSpot_50 : decode cX1_oldestSpot 50 = .ok (.iload_n 3, 1) := by decide +kernel
theorem dX1_oldestSpot_51 : decode cX1_oldestSpot 51 = .ok (.iaload, 1) := by decide +kernel
theorem dX1_oldestSpot_52 : decode cX1_oldestSpot 52 = .ok (.aload_n 0, 1) := by decide +kernel
theorem dX1_oldestSpot_53 : decode cX1_oldestSpot 53 = .ok (.getfield 18, 3) := by decide +kernel
theorem dX1_oldestSpot_56 : decode cX1_oldestSpot 56 = .ok (.iload_n 2, 1) := by decide +kernel
theorem dX1_oldestSpot_57 : decode cX1_oldestSpot 57 = .ok (.iaload, 1) := by decide +kernel
theorem dX1_oldestSpot_58 : decode cX1_oldestSpot 58 = .ok (.if_icmp .ge 5, 3) := by decide +kernel
theorem dX1_oldestSpot_61 : decode cX1_oldestSpot 61 = .ok (.iload_n 3, 1) := by decide +kernel
theorem dX1_oldestSpot_62 : decode cX1_oldestSpot 62 = .ok (.istore_n 2, 1) := by decide +kernel
theorem dX1_oldestSpot_63 : decode cX1_oldestSpot 63 = .ok (.iinc 3 1, 3) := by decide +kernel
theorem dX1_oldestSpot_66 : decode cX1_oldestSpot 66 = .ok (.goto (-61), 3) := by decide +kernel
theorem dX1_oldestSpot_69 : decode cX1_oldestSpot 69 = .ok (.iload_n 2, 1) := by decide +kernel
theorem dX1_oldestSpot_70 : decode cX1_oldestSpot 70 = .ok (.ireturn, 1) := by decide +kernel
theorem dX2_init_0 : decode cX2_init 0 = .ok (.aload_n 0, 1) := by decide +kernel
theorem dX2_init_1 : decode cX2_init 1 = .ok (.invokespecial 3, 3) := by decide +kernel
theorem dX2_init_4 : decode cX2_init 4 = .ok (.aload_n 0, 1) := by decide +kernel
theorem dX2_init_5 : decode cX2_init 5 = .ok (.bipush 60, 2) := by decide +kernel
theorem dX2_init_7 : decode cX2_init 7 = .ok (.newarray .char, 2) := by decide +kernel
theorem dX2_init_9 : decode cX2_init 9 = .ok (.putfield 9, 3) := by decide +kernel
theorem dX2_init_12 : decode cX2_init 12 = .ok (.aload_n 0, 1) := by decide +kernel
theorem dX2_init_13 : decode cX2_init 13 = .ok (.bipush 20, 2) := by decide +kernel
theorem dX2_init_15 : decode cX2_init 15 = .ok (.newarray .int, 2) := by decide +kernel
theorem dX2_init_17 : decode cX2_init 17 = .ok (.putfield 15, 3) := by decide +kernel
theorem dX2_init_20 : decode cX2_init 20 = .ok (.aload_n 0, 1) := by decide +kernel
theorem dX2_init_21 : decode cX2_init 21 = .ok (.bipush 20, 2) := by decide +kernel
theorem dX2_init_23 : decode cX2_init 23 = .ok (.newarray .int, 2) := by decide +kernel
theorem dX2_init_25 : decode cX2_init 25 = .ok (.putfield 19, 3) := by decide +kernel
theorem dX2_init_28 : decode cX2_init 28 = .ok (.aload_n 0, 1) := by decide +kernel
theorem dX2_init_29 : decode cX2_init 29 = .ok (.bipush 20, 2) := by decide +kernel
theorem dX2_init_31 : decode cX2_init 31 = .ok (.newarray .int, 2) := by decide +kernel
theorem dX2_init_33 : decode cX2_init 33 = .ok (.putfield 22, 3) := by decide +kernel
theorem dX2_init_36 : decode cX2_init 36 = .ok (.aload_n 0, 1) := by decide +kernel
theorem dX2_init_37 : decode cX2_init 37 = .ok (.bipush 20, 2) := by decide +kernel
theorem dX2_init_39 : decode cX2_init 39 = .ok (.newarray .int, 2) := by decide +kernel
theorem dX2_init_41 : decode cX2_init 41 = .ok (.putfield 25, 3) := by decide +kernel
theorem dX2_init_44 : decode cX2_init 44 = .ok (.aload_n 0, 1) := by decide +kernel
theorem dX2_init_45 : decode cX2_init 45 = .ok (.bipush 20, 2) := by decide +kernel
theorem dX2_init_47 : decode cX2_init 47 = .ok (.newarray .int, 2) := by decide +kernel
theorem dX2_init_49 : decode cX2_init 49 = .ok (.putfield 28, 3) := by decide +kernel
theorem dX2_init_52 : decode cX2_init 52 = .ok (.return_, 1) := by decide +kernel
theorem dX2_append_0 : decode cX2_append 0 = .ok (.aload_n 0, 1) := by decide +kernel
theorem dX2_append_1 : decode cX2_append 1 = .ok (.getfield 31, 3) := by decide +kernel
theorem dX2_append_4 : decode cX2_append 4 = .ok (.bipush 60, 2) := by decide +kernel
theorem dX2_append_6 : decode cX2_append 6 = .ok (.if_icmp .lt 6, 3) := by decide +kernel
theorem dX2_append_9 : decode cX2_append 9 = .ok (.bipush (-3), 2) := by decide +kernel
theorem dX2_append_11 : decode cX2_append 11 = .ok (.ireturn, 1) := by decide +kernel
theorem dX2_append_12 : decode cX2_append 12 = .ok (.aload_n 0, 1) := by decide +kernel
theorem dX2_append_13 : decode cX2_append 13 = .ok (.getfield 9, 3) := by decide +kernel
theorem dX2_append_16 : decode cX2_append 16 = .ok (.aload_n 0, 1) := by decide +kernel
theorem dX2_append_17 : decode cX2_append 17 = .ok (.getfield 31, 3) := by decide +kernel
theorem dX2_append_20 : decode cX2_append 20 = .ok (.iload_n 1, 1) := by decide +kernel
theorem dX2_append_21 : decode cX2_append 21 = .ok (.castore, 1) := by decide +kernel
theorem dX2_append_22 : decode cX2_append 22 = .ok (.aload_n 0, 1) := by decide +kernel
theorem dX2_append_23 : decode cX2_append 23 = .ok (.dup, 1) := by decide +kernel
theorem dX2_append_24 : decode cX2_append 24 = .ok (.getfield 31, 3) := by decide +kernel
theorem dX2_append_27 : decode cX2_append 27 = .ok (.iconst 1, 1) := by decide +kernel
theorem dX2_append_28 : decode cX2_append 28 = .ok (.iadd, 1) := by decide +kernel
theorem dX2_append_29 : decode cX2_append 29 = .ok (.putfield 31, 3) := by decide +kernel
theorem dX2_append_32 : decode cX2_append 32 = .ok (.aload_n 0, 1) := by decide +kernel
theorem dX2_append_33 : decode cX2_append 33 = .ok (.getfield 31, 3) := by decide +kernel
theorem dX2_append_36 : decode cX2_append 36 = .ok (.ireturn, 1) := by decide +kernel
theorem dX2_empty_0 : decode cX2_empty 0 = .ok (.aload_n 0, 1) := by decide +kernel
theorem dX2_empty_1 : decode cX2_empty 1 = .ok (.getfield 31, 3) := by decide +kernel
theorem dX2_empty_4 : decode cX2_empty 4 = .ok (.istore_n 1, 1) := by decide +kernel
theorem dX2_empty_5 : decode cX2_empty 5 = .ok (.aload_n 0, 1) := by decide +kernel
theorem dX2_empty_6 : decode cX2_empty 6 = .ok (.iconst 0, 1) := by decide +kernel
theorem dX2_empty_7 : decode cX2_empty 7 = .ok (.putfield 31, 3) := by decide +kernel
theorem dX2_empty_10 : decode cX2_empty 10 = .ok (.iload_n 1, 1) := by decide +kernel
theorem dX2_empty_11 : decode cX2_empty 11 = .ok (.ireturn, 1) := by decide +kernel
theorem dX2_read_0 : decode cX2_read 0 = .ok (.aload_n 0, 1) := by decide +kernel
theorem dX2_read_1 : decode cX2_read 1 = .ok (.iconst 0, 1) := by decide +kernel
theorem dX2_read_2 : decode cX2_read 2 = .ok (.putfield 35, 3) := by decide +kernel
theorem dX2_read_5 : decode cX2_read 5 = .ok (.aload_n 0, 1) := by decide +kernel
theorem dX2_read_6 : decode cX2_read 6 = .ok (.iconst 0, 1) := by decide +kernel
theorem dX2_read_7 : decode cX2_read 7 = .ok (.putfield 38, 3) := by decide +kernel
theorem dX2_read_10 : decode cX2_read 10 = .ok (.aload_n 0, 1) := by decide +kernel
theorem dX2_read_11 : decode cX2_read 11 = .ok (.getfield 38, 3) := by decide +kernel
theorem dX2_read_14 : decode cX2_read 14 = .ok (.bipush 20, 2) := by decide +kernel
theorem dX2_read_16 : decode cX2_read 16 = .ok (.if_icmp .ge 56, 3) := by decide +kernel
theorem dX2_read_19 : decode cX2_read 19 = .ok (.aload_n 0, 1) := by decide +kernel
theorem dX2_read_20 : decode cX2_read 20 = .ok (.aload_n 0, 1) := by decide +kernel
theorem dX2_read_21 : decode cX2_read 21 = .ok (.getfield 38, 3) := by decide +kernel
theorem dX2_read_24 : decode cX2_read 24 = .ok (.invokevirtual 41, 3) := by decide +kernel
theorem dX2_read_27 : decode cX2_read 27 = .ok (.ifCond .ne 8, 3) := by decide +kernel
theorem dX2_read_30 : decode cX2_read 30 = .ok (.aload_n 0, 1) := by decide +kernel
theorem dX2_read_31 : decode cX2_read 31 = .ok (.getfield 35, 3) := by decide +kernel
theorem dX2_read_34 : decode cX2_read 34 = .ok (.ireturn, 1) := by decide +kernel
theorem dX2_read_35 : decode cX2_read 35 = .ok (.aload_n 0, 1) := by decide +kernel
theorem dX2_read_36 : decode cX2_read 36 = .ok (.dup, 1) := by decide +kernel
theorem dX2_read_37 : decode cX2_read 37 = .ok (.getfield 38, 3) := by decide +kernel
theorem dX2_read_40 : decode cX2_read 40 = .ok (.iconst 1, 1) := by decide +kernel
theorem dX2_read_41 : decode cX2_read 41 = .ok (.iadd, 1) := by decide +kernel
theorem dX2_read_42 : decode cX2_read 42 = .ok (.putfield 38, 3) := by decide +kernel
theorem dX2_read_45 : decode cX2_read 45 = .ok (.aload_n 0, 1) := by decide +kernel
theorem dX2_read_46 : decode cX2_read 46 = .ok (.getfield 35, 3) := by decide +kernel
theorem dX2_read_49 : decode cX2_read 49 = .ok (.aload_n 0, 1) := by decide +kernel
theorem dX2_read_50 : decode cX2_read 50 = .ok (.getfield 31, 3) := by decide +kernel
theorem dX2_read_53 : decode cX2_read 53 = .ok (.if_icmp .lt 5, 3) := by decide +kernel
theorem dX2_read_56 : decode cX2_read 56 = .ok (.iconst (-1), 1) := by decide +kernel
theorem dX2_read_57 : decode cX2_read 57 = .ok (.ireturn, 1) := by decide +kernel
theorem dX2_read_58 : decode cX2_read 58 = .ok (.aload_n 0, 1) := by decide +kernel
theorem dX2_read_59 : decode cX2_read 59 = .ok (.bipush 59, 2) := by decide +kernel
theorem dX2_read_61 : decode cX2_read 61 = .ok (.invokevirtual 45, 3) := by decide +kernel
theorem dX2_read_64 : decode cX2_read 64 = .ok (.ifCond .ne (-54), 3) := by decide +kernel
theorem dX2_read_67 : decode cX2_read 67 = .ok (.aload_n 0, 1) := by decide +kernel
theorem dX2_read_68 : decode cX2_read 68 = .ok (.getfield 35, 3) := by decide +kernel
theorem dX2_read_71 : decode cX2_read 71 = .ok (.ireturn, 1) := by decide +kernel
theorem dX2_read_72 : decode cX2_read 72 = .ok (.aload_n 0, 1) := by decide +kernel
theorem dX2_read_73 : decode cX2_read 73 = .ok (.getfield 35, 3) := by decide +kernel
theorem dX2_read_76 : decode cX2_read 76 = .ok (.ireturn, 1) := by decide +kernel
theorem dX2_readThing_0 : decode cX2_readThing 0 = .ok (.aload_n 0, 1) := by decide +kernel
theorem dX2_readThing_1 : decode cX2_readThing 1 = .ok (.bipush 112, 2) := by decide +kernel
theorem dX2_readThing_3 : decode cX2_readThing 3 = .ok (.invokevirtual 45, 3) := by decide +kernel
theorem dX2_readThing_6 : decode cX2_readThing 6 = .ok (.ifCond .eq 16, 3) := by decide +kernel
theorem dX2_readThing_9 : decode cX2_readThing 9 = .ok (.aload_n 0, 1) := by decide +kernel
theorem dX2_readThing_10 : decode cX2_readThing 10 = .ok (.getfield 15, 3) := by decide +kernel
theorem dX2_readThing_13 : decode cX2_readThing 13 = .ok (.iload_n 1, 1) := by decide +kernel
theorem dX2_readThing_14 : decode cX2_readThing 14 = .ok (.iconst 0, 1) := by decide +kernel
theorem dX2_readThing_15 : decode cX2_readThing 15 = .ok (.iastore, 1) := by decide +kernel
theorem dX2_readThing_16 : decode cX2_readThing 16 = .ok (.aload_n 0, 1) := by decide +kernel
theorem dX2_readThing_17 : decode cX2_readThing 17 = .ok (.iload_n 1, 1) := by decide +kernel
theorem dX2_readThing_18 : decode cX2_readThing 18 = .ok (.invokevirtual 49, 3) := by decide +kernel
theorem dX2_readThing_21 : decode cX2_readThing 21 = .ok (.ireturn, 1) := by decide +kernel
theorem dX2_readThing_22 : decode cX2_readThing 22 = .ok (.aload_n 0, 1) := by decide +kernel
theorem dX2_readThing_23 : decode cX2_readThing 23 = .ok (.bipush 121, 2) := by decide +kernel
theorem dX2_readThing_25 : decode cX2_readThing 25 = .ok (.invokevirtual 45, 3) := by decide +kernel
theorem dX2_readThing_28 : decode cX2_readThing 28 = .ok (.ifCond .eq 16, 3) := by decide +kernel
theorem dX2_readThing_31 : decode cX2_readThing 31 = .ok (.aload_n 0, 1) := by decide +kernel
theorem dX2_readThing_32 : decode cX2_readThing 32 = .ok (.getfield 15, 3) := by decide +kernel
theorem dX2_readThing_35 : decode cX2_readThing 35 = .ok (.iload_n 1, 1) := by decide +kernel
theorem dX2_readThing_36 : decode cX2_readThing 36 = .ok (.iconst 1, 1) := by decide +kernel
theorem dX2_readThing_37 : decode cX2_readThing 37 = .ok (.iastore, 1) := by decide +kernel
theorem dX2_readThing_38 : decode cX2_readThing 38 = .ok (.aload_n 0, 1) := by decide +kernel
theorem dX2_readThing_39 : decode cX2_readThing 39 = .ok (.iload_n 1, 1) := by decide +kernel
theorem dX2_readThing_40 : decode cX2_readThing 40 = .ok (.invokevirtual 52, 3) := by decide +kernel
theorem dX2_readThing_43 : decode cX2_readThing 43 = .ok (.ireturn, 1) := by decide +kernel
theorem dX2_readThing_44 : decode cX2_readThing 44 = .ok (.aload_n 0, 1) := by decide +kernel
theorem dX2_readThing_45 : decode cX2_readThing 45 = .ok (.bipush 46, 2) := by decide +kernel
theorem dX2_readThing_47 : decode cX2_readThing 47 = .ok (.invokevirtual 45, 3) := by decide +kernel
theorem dX2_readThing_50 : decode cX2_readThing 50 = .ok (.ifCond .eq 38, 3) := by decide +kernel
theorem dX2_readThing_53 : decode cX2_readThing 53 = .ok (.aload_n 0, 1) := by decide +kernel
theorem dX2_readThing_54 : decode cX2_readThing 54 = .ok (.getfield 15, 3) := by decide +kernel
theorem dX2_readThing_57 : decode cX2_readThing 57 = .ok (.iload_n 1, 1) := by decide +kernel
theorem dX2_readThing_58 : decode cX2_readThing 58 = .ok (.iconst 2, 1) := by decide +kernel
theorem dX2_readThing_59 : decode cX2_readThing 59 = .ok (.iastore, 1) := by decide +kernel
theorem dX2_readThing_60 : decode cX2_readThing 60 = .ok (.aload_n 0, 1) := by decide +kernel
theorem dX2_readThing_61 : decode cX2_readThing 61 = .ok (.getfield 22, 3) := by decide +kernel
theorem dX2_readThing_64 : decode cX2_readThing 64 = .ok (.iload_n 1, 1) := by decide +kernel
theorem dX2_readThing_65 : decode cX2_readThing 65 = .ok (.aload_n 0, 1) := by decide +kernel
theorem dX2_readThing_66 : decode cX2_readThing 66 = .ok (.iconst 1, 1) := by decide +kernel
theorem dX2_readThing_67 : decode cX2_readThing 67 = .ok (.bipush 99, 2) := by decide +kernel
theorem dX2_readThing_69 : decode cX2_readThing 69 = .ok (.invokevirtual 55, 3) := by decide +kernel
theorem dX2_readThing_72 : decode cX2_readThing 72 = .ok (.iastore, 1) := by decide +kernel
theorem dX2_readThing_73 : decode cX2_readThing 73 = .ok (.aload_n 0, 1) := by decide +kernel
theorem dX2_readThing_74 : decode cX2_readThing 74 = .ok (.getfield 22, 3) := by decide +kernel
theorem dX2_readThing_77 : decode cX2_readThing 77 = .ok (.iload_n 1, 1) := by decide +kernel
theorem dX2_readThing_78 : decode cX2_readThing 78 = .ok (.iaload, 1) := by decide +kernel
theorem dX2_readThing_79 : decode cX2_readThing 79 = .ok (.ifCond .lt 7, 3) := by decide +kernel
theorem dX2_readThing_82 : decode cX2_readThing 82 = .ok (.iconst 1, 1) := by decide +kernel
theorem dX2_readThing_83 : decode cX2_readThing 83 = .ok (.goto 4, 3) := by decide +kernel
theorem dX2_readThing_86 : decode cX2_readThing 86 = .ok (.iconst 0, 1) := by decide +kernel
theorem dX2_readThing_87 : decode cX2_readThing 87 = .ok (.ireturn, 1) := by decide +kernel
theorem dX2_readThing_88 : decode cX2_readThing 88 = .ok (.iconst 0, 1) := by decide +kernel
theorem dX2_readThing_89 : decode cX2_readThing 89 = .ok (.ireturn, 1) := by decide +kernel
theorem dX2_readPetition_0 : decode cX2_readPetition 0 = .ok (.aload_n 0, 1) := by decide +kernel
theorem dX2_readPetition_1 : decode cX2_readPetition 1 = .ok (.getfield 19, 3) := by decide +kernel
theorem dX2_readPetition_4 : decode cX2_readPetition 4 = .ok (.iload_n 1, 1) := by decide +kernel
theorem dX2_readPetition_5 : decode cX2_readPetition 5 = .ok (.aload_n 0, 1) := by decide +kernel
theorem dX2_readPetition_6 : decode cX2_readPetition 6 = .ok (.iconst 0, 1) := by decide +kernel
theorem dX2_readPetition_7 : decode cX2_readPetition 7 = .ok (.bipush 11, 2) := by decide +kernel
theorem dX2_readPetition_9 : decode cX2_readPetition 9 = .ok (.invokevirtual 55, 3) := by decide +kernel
theorem dX2_readPetition_12 : decode cX2_readPetition 12 = .ok (.iastore, 1) := by decide +kernel
theorem dX2_readPetition_13 : decode cX2_readPetition 13 = .ok (.aload_n 0, 1) := by decide +kernel
theorem dX2_readPetition_14 : decode cX2_readPetition 14 = .ok (.getfield 19, 3) := by decide +kernel
theorem dX2_readPetition_17 : decode cX2_readPetition 17 = .ok (.iload_n 1, 1) := by decide +kernel
theorem dX2_readPetition_18 : decode cX2_readPetition 18 = .ok (.iaload, 1) := by decide +kernel
theorem dX2_readPetition_19 : decode cX2_readPetition 19 = .ok (.ifCond .lt 12, 3) := by decide +kernel
theorem dX2_readPetition_22 : decode cX2_readPetition 22 = .ok (.aload_n 0, 1) := by decide +kernel
theorem dX2_readPetition_23 : decode cX2_readPetition 23 = .ok (.bipush 58, 2) := by decide +kernel
theorem dX2_readPetition_25 : decode cX2_readPetition 25 = .ok (.invokevirtual 45, 3) := by decide +kernel
theorem dX2_readPetition_28 : decode cX2_readPetition 28 = .ok (.ifCond .ne 5, 3) := by decide +kernel
theorem dX2_readPetition_31 : decode cX2_readPetition 31 = .ok (.iconst 0, 1) := by decide +kernel
theorem dX2_readPetition_32 : decode cX2_readPetition 32 = .ok (.ireturn, 1) := by decide +kernel
theorem dX2_readPetition_33 : decode cX2_readPetition 33 = .ok (.aload_n 0, 1) := by decide +kernel
theorem dX2_readPetition_34 : decode cX2_readPetition 34 = .ok (.getfield 22, 3) := by decide +kernel
theorem dX2_readPetition_37 : decode cX2_readPetition 37 = .ok (.iload_n 1, 1) := by decide +kernel
theorem dX2_readPetition_38 : decode cX2_readPetition 38 = .ok (.aload_n 0, 1) := by decide +kernel
theorem dX2_readPetition_39 : decode cX2_readPetition 39 = .ok (.iconst 0, 1) := by decide +kernel
theorem dX2_readPetition_40 : decode cX2_readPetition 40 = .ok (.bipush 6, 2) := by decide +kernel
theorem dX2_readPetition_42 : decode cX2_readPetition 42 = .ok (.invokevirtual 55, 3) := by decide +kernel
theorem dX2_readPetition_45 : decode cX2_readPetition 45 = .ok (.iastore, 1) := by decide +kernel
theorem dX2_readPetition_46 : decode cX2_readPetition 46 = .ok (.aload_n 0, 1) := by decide +kernel
theorem dX2_readPetition_47 : decode cX2_readPetition 47 = .ok (.getfield 22, 3) := by decide +kernel
theorem dX2_readPetition_50 : decode cX2_readPetition 50 = .ok (.iload_n 1, 1) := by decide +kernel
theorem dX2_readPetition_51 : decode cX2_readPetition 51 = .ok (.iaload, 1) := by decide +kernel
theorem dX2_readPetition_52 : decode cX2_readPetition 52 = .ok (.ifCond .lt 12, 3) := by decide +kernel
theorem dX2_readPetition_55 : decode cX2_readPetition 55 = .ok (.aload_n 0, 1) := by decide +kernel
theorem dX2_readPetition_56 : decode cX2_readPetition 56 = .ok (.bipush 46, 2) := by decide +kernel
theorem dX2_readPetition_58 : decode cX2_readPetition 58 = .ok (.invokevirtual 45, 3) := by decide +kernel
theorem dX2_readPetition_61 : decode cX2_readPetition 61 = .ok (.ifCond .ne 5, 3) := by decide +kernel
theorem dX2_readPetition_64 : decode cX2_readPetition 64 = .ok (.iconst 0, 1) := by decide +kernel
theorem dX2_readPetition_65 : decode cX2_readPetition 65 = .ok (.ireturn, 1) := by decide +kernel
theorem dX2_readPetition_66 : decode cX2_readPetition 66 = .ok (.aload_n 0, 1) := by decide +kernel
theorem dX2_readPetition_67 : decode cX2_readPetition 67 = .ok (.getfield 25, 3) := by decide +kernel
theorem dX2_readPetition_70 : decode cX2_readPetition 70 = .ok (.iload_n 1, 1) := by decide +kernel
theorem dX2_readPetition_71 : decode cX2_readPetition 71 = .ok (.aload_n 0, 1) := by decide +kernel
theorem dX2_readPetition_72 : decode cX2_readPetition 72 = .ok (.iconst 0, 1) := by decide +kernel
theorem dX2_readPetition_73 : decode cX2_readPetition 73 = .ok (.bipush 19, 2) := by decide +kernel
theorem dX2_readPetition_75 : decode cX2_readPetition 75 = .ok (.invokevirtual 55, 3) := by decide +kernel
theorem dX2_readPetition_78 : decode cX2_readPetition 78 = .ok (.iastore, 1) := by decide +kernel
theorem dX2_readPetition_79 : decode cX2_readPetition 79 = .ok (.aload_n 0, 1) := by decide +kernel
theorem dX2_readPetition_80 : decode cX2_readPetition 80 = .ok (.getfield 25, 3) := by decide +kernel
theorem dX2_readPetition_83 : decode cX2_readPetition 83 = .ok (.iload_n 1, 1) := by decide +kernel
theorem dX2_readPetition_84 : decode cX2_readPetition 84 = .ok (.iaload, 1) := by decide +kernel
theorem dX2_readPetition_85 : decode cX2_readPetition 85 = .ok (.ifCond .ge 5, 3) := by decide +kernel
theorem dX2_readPetition_88 : decode cX2_readPetition 88 = .ok (.iconst 0, 1) := by decide +kernel
theorem dX2_readPetition_89 : decode cX2_readPetition 89 = .ok (.ireturn, 1) := by decide +kernel
theorem dX2_readPetition_90 : decode cX2_readPetition 90 = .ok (.aload_n 0, 1) := by decide +kernel
theorem dX2_readPetition_91 : decode cX2_readPetition 91 = .ok (.getfield 28, 3) := by decide +kernel
theorem dX2_readPetition_94 : decode cX2_readPetition 94 = .ok (.iload_n 1, 1) := by decide +kernel
theorem dX2_readPetition_95 : decode cX2_readPetition 95 = .ok (.aload_n 0, 1) := by decide +kernel
theorem dX2_readPetition_96 : decode cX2_readPetition 96 = .ok (.invokevirtual 59, 3) := by decide +kernel
theorem dX2_readPetition_99 : decode cX2_readPetition 99 = .ok (.iastore, 1) := by decide +kernel
theorem dX2_readPetition_100 : decode cX2_readPetition 100 = .ok (.aload_n 0, 1) := by decide +kernel
theorem dX2_readPetition_101 : decode cX2_readPetition 101 = .ok (.getfield 28, 3) := by decide +kernel
theorem dX2_readPetition_104 : decode cX2_readPetition 104 = .ok (.iload_n 1, 1) := by decide +kernel
theorem dX2_readPetition_105 : decode cX2_readPetition 105 = .ok (.iaload, 1) := by decide +kernel
theorem dX2_readPetition_106 : decode cX2_readPetition 106 = .ok (.ifCond .lt 7, 3) := by decide +kernel
theorem dX2_readPetition_109 : decode cX2_readPetition 109 = .ok (.iconst 1, 1) := by decide +kernel
theorem dX2_readPetition_110 : decode cX2_readPetition 110 = .ok (.goto 4, 3) := by decide +kernel
theorem dX2_readPetition_113 : decode cX2_readPetition 113 = .ok (.iconst 0, 1) := by decide +kernel
theorem dX2_readPetition_114 : decode cX2_readPetition 114 = .ok (.ireturn, 1) := by decide +kernel
theorem dX2_readSeconding_0 : decode cX2_readSeconding 0 = .ok (.aload_n 0, 1) := by decide +kernel
theorem dX2_readSeconding_1 : decode cX2_readSeconding 1 = .ok (.getfield 19, 3) := by decide +kernel
theorem dX2_readSeconding_4 : decode cX2_readSeconding 4 = .ok (.iload_n 1, 1) := by decide +kernel
theorem dX2_readSeconding_5 : decode cX2_readSeconding 5 = .ok (.aload_n 0, 1) := by decide +kernel
theorem dX2_readSeconding_6 : decode cX2_readSeconding 6 = .ok (.iconst 0, 1) := by decide +kernel
theorem dX2_readSeconding_7 : decode cX2_readSeconding 7 = .ok (.bipush 11, 2) := by decide +kernel
theorem dX2_readSeconding_9 : decode cX2_readSeconding 9 = .ok (.invokevirtual 55, 3) := by decide +kernel
theorem dX2_readSeconding_12 : decode cX2_readSeconding 12 = .ok (.iastore, 1) := by decide +kernel
theorem dX2_readSeconding_13 : decode cX2_readSeconding 13 = .ok (.aload_n 0, 1) := by decide +kernel
theorem dX2_readSeconding_14 : decode cX2_readSeconding 14 = .ok (.getfield 19, 3) := by decide +kernel
theorem dX2_readSeconding_17 : decode cX2_readSeconding 17 = .ok (.iload_n 1, 1) := by decide +kernel
theorem dX2_readSeconding_18 : decode cX2_readSeconding 18 = .ok (.iaload, 1) := by decide +kernel
theorem dX2_readSeconding_19 : decode cX2_readSeconding 19 = .ok (.ifCond .lt 12, 3) := by decide +kernel
theorem dX2_readSeconding_22 : decode cX2_readSeconding 22 = .ok (.aload_n 0, 1) := by decide +kernel
theorem dX2_readSeconding_23 : decode cX2_readSeconding 23 = .ok (.bipush 58, 2) := by decide +kernel
theorem dX2_readSeconding_25 : decode cX2_readSeconding 25 = .ok (.invokevirtual 45, 3) := by decide +kernel
theorem dX2_readSeconding_28 : decode cX2_readSeconding 28 = .ok (.ifCond .ne 5, 3) := by decide +kernel
theorem dX2_readSeconding_31 : decode cX2_readSeconding 31 = .ok (.iconst 0, 1) := by decide +kernel
theorem dX2_readSeconding_32 : decode cX2_readSeconding 32 = .ok (.ireturn, 1) := by decide +kernel
theorem dX2_readSeconding_33 : decode cX2_readSeconding 33 = .ok (.aload_n 0, 1) := by decide +kernel
theorem dX2_readSeconding_34 : decode cX2_readSeconding 34 = .ok (.getfield 22, 3) := by decide +kernel
theorem dX2_readSeconding_37 : decode cX2_readSeconding 37 = .ok (.iload_n 1, 1) := by decide +kernel
theorem dX2_readSeconding_38 : decode cX2_readSeconding 38 = .ok (.aload_n 0, 1) := by decide +kernel
theorem dX2_readSeconding_39 : decode cX2_readSeconding 39 = .ok (.iconst 0, 1) := by decide +kernel
theorem dX2_readSeconding_40 : decode cX2_readSeconding 40 = .ok (.bipush 11, 2) := by decide +kernel
theorem dX2_readSeconding_42 : decode cX2_readSeconding 42 = .ok (.invokevirtual 55, 3) := by decide +kernel
theorem dX2_readSeconding_45 : decode cX2_readSeconding 45 = .ok (.iastore, 1) := by decide +kernel
theorem dX2_readSeconding_46 : decode cX2_readSeconding 46 = .ok (.aload_n 0, 1) := by decide +kernel
theorem dX2_readSeconding_47 : decode cX2_readSeconding 47 = .ok (.getfield 22, 3) := by decide +kernel
theorem dX2_readSeconding_50 : decode cX2_readSeconding 50 = .ok (.iload_n 1, 1) := by decide +kernel
theorem dX2_readSeconding_51 : decode cX2_readSeconding 51 = .ok (.iaload, 1) := by decide +kernel
theorem dX2_readSeconding_52 : decode cX2_readSeconding 52 = .ok (.ifCond .lt 7, 3) := by decide +kernel
theorem dX2_readSeconding_55 : decode cX2_readSeconding 55 = .ok (.iconst 1, 1) := by decide +kernel
theorem dX2_readSeconding_56 : decode cX2_readSeconding 56 = .ok (.goto 4, 3) := by decide +kernel
theorem dX2_readSeconding_59 : decode cX2_readSeconding 59 = .ok (.iconst 0, 1) := by decide +kernel
theorem dX2_readSeconding_60 : decode cX2_readSeconding 60 = .ok (.ireturn, 1) := by decide +kernel
theorem dX2_readKind_0 : decode cX2_readKind 0 = .ok (.aload_n 0, 1) := by decide +kernel
theorem dX2_readKind_1 : decode cX2_readKind 1 = .ok (.bipush 43, 2) := by decide +kernel
theorem dX2_readKind_3 : decode cX2_readKind 3 = .ok (.invokevirtual 45, 3) := by decide +kernel
theorem dX2_readKind_6 : decode cX2_readKind 6 = .ok (.ifCond .eq 5, 3) := by decide +kernel
theorem dX2_readKind_9 : decode cX2_readKind 9 = .ok (.iconst 1, 1) := by decide +kernel
theorem dX2_readKind_10 : decode cX2_readKind 10 = .ok (.ireturn, 1) := by decide +kernel
theorem dX2_readKind_11 : decode cX2_readKind 11 = .ok (.aload_n 0, 1) := by decide +kernel
theorem dX2_readKind_12 : decode cX2_readKind 12 = .ok (.bipush 45, 2) := by decide +kernel
theorem dX2_readKind_14 : decode cX2_readKind 14 = .ok (.invokevirtual 45, 3) := by decide +kernel
theorem dX2_readKind_17 : decode cX2_readKind 17 = .ok (.ifCond .eq 5, 3) := by decide +kernel
theorem dX2_readKind_20 : decode cX2_readKind 20 = .ok (.iconst 0, 1) := by decide +kernel
theorem dX2_readKind_21 : decode cX2_readKind 21 = .ok (.ireturn, 1) := by decide +kernel
theorem dX2_readKind_22 : decode cX2_readKind 22 = .ok (.aload_n 0, 1) := by decide +kernel
theorem dX2_readKind_23 : decode cX2_readKind 23 = .ok (.bipush 120, 2) := by decide +kernel
theorem dX2_readKind_25 : decode cX2_readKind 25 = .ok (.invokevirtual 45, 3) := by decide +kernel
theorem dX2_readKind_28 : decode cX2_readKind 28 = .ok (.ifCond .eq 7, 3) := by decide +kernel
theorem dX2_readKind_31 : decode cX2_readKind 31 = .ok (.iconst 2, 1) := by decide +kernel
theorem dX2_readKind_32 : decode cX2_readKind 32 = .ok (.goto 4, 3) := by decide +kernel
theorem dX2_readKind_35 : decode cX2_readKind 35 = .ok (.iconst (-1), 1) := by decide +kernel
theorem dX2_readKind_36 : decode cX2_readKind 36 = .ok (.ireturn, 1) := by decide +kernel
theorem dX2_readNumber_0 : decode cX2_readNumber 0 = .ok (.aload_n 0, 1) := by decide +kernel
theorem dX2_readNumber_1 : decode cX2_readNumber 1 = .ok (.invokevirtual 63, 3) := by decide +kernel
theorem dX2_readNumber_4 : decode cX2_readNumber 4 = .ok (.istore_n 3, 1) := by decide +kernel
theorem dX2_readNumber_5 : decode cX2_readNumber 5 = .ok (.iload_n 3, 1) := by decide +kernel
theorem dX2_readNumber_6 : decode cX2_readNumber 6 = .ok (.iload_n 1, 1) := by decide +kernel
theorem dX2_readNumber_7 : decode cX2_readNumber 7 = .ok (.if_icmp .lt 8, 3) := by decide +kernel
theorem dX2_readNumber_10 : decode cX2_readNumber 10 = .ok (.iload_n 3, 1) := by decide +kernel
theorem dX2_readNumber_11 : decode cX2_readNumber 11 = .ok (.iload_n 2, 1) := by decide +kernel
theorem dX2_readNumber_12 : decode cX2_readNumber 12 = .ok (.if_icmp .le 5, 3) := by decide +kernel
theorem dX2_readNumber_15 : decode cX2_readNumber 15 = .ok (.iconst (-1), 1) := by decide +kernel
theorem dX2_readNumber_16 : decode cX2_readNumber 16 = .ok (.ireturn, 1) := by decide +kernel
theorem dX2_readNumber_17 : decode cX2_readNumber 17 = .ok (.aload_n 0, 1) := by decide +kernel
theorem dX2_readNumber_18 : decode cX2_readNumber 18 = .ok (.dup, 1) := by decide +kernel
theorem dX2_readNumber_19 : decode cX2_readNumber 19 = .ok (.getfield 35, 3) := by decide +kernel
theorem dX2_readNumber_22 : decode cX2_readNumber 22 = .ok (.iconst 1, 1) := by decide +kernel
theorem dX2_readNumber_23 : decode cX2_readNumber 23 = .ok (.iadd, 1) := by decide +kernel
theorem dX2_readNumber_24 : decode cX2_readNumber 24 = .ok (.putfield 35, 3) := by decide +kernel
theorem dX2_readNumber_27 : decode cX2_readNumber 27 = .ok (.iload_n 3, 1) := by decide +kernel
theorem dX2_readNumber_28 : decode cX2_readNumber 28 = .ok (.ifCond .le 59, 3) := by decide +kernel
theorem dX2_readNumber_31 : decode cX2_readNumber 31 = .ok (.aload_n 0, 1) := by decide +kernel
theorem dX2_readNumber_32 : decode cX2_readNumber 32 = .ok (.getfield 35, 3) := by decide +kernel
theorem dX2_readNumber_35 : decode cX2_readNumber 35 = .ok (.aload_n 0, 1) := by decide +kernel
theorem dX2_readNumber_36 : decode cX2_readNumber 36 = .ok (.getfield 31, 3) := by decide +kernel
theorem dX2_readNumber_39 : decode cX2_readNumber 39 = .ok (.if_icmp .ge 48, 3) := by decide +kernel
theorem dX2_readNumber_42 : decode cX2_readNumber 42 = .ok (.aload_n 0, 1) := by decide +kernel
theorem dX2_readNumber_43 : decode cX2_readNumber 43 = .ok (.invokevirtual 63, 3) := by decide +kernel
theorem dX2_readNumber_46 : decode cX2_readNumber 46 = .ok (.istore 4, 2) := by decide +kernel
theorem dX2_readNumber_48 : decode cX2_readNumber 48 = .ok (.iload 4, 2) := by decide +kernel
theorem dX2_readNumber_50 : decode cX2_readNumber 50 = .ok (.ifCond .lt 14, 3) := by decide +kernel
theorem dX2_readNumber_53 : decode cX2_readNumber 53 = .ok (.iload_n 3, 1) := by decide +kernel
theorem dX2_readNumber_54 : decode cX2_readNumber 54 = .ok (.bipush 10, 2) := by decide +kernel
theorem dX2_readNumber_56 : decode cX2_readNumber 56 = .ok (.imul, 1) := by decide +kernel
theorem dX2_readNumber_57 : decode cX2_readNumber 57 = .ok (.iload 4, 2) := by decide +kernel
theorem dX2_readNumber_59 : decode cX2_readNumber 59 = .ok (.iadd, 1) := by decide +kernel
theorem dX2_readNumber_60 : decode cX2_readNumber 60 = .ok (.iload_n 2, 1) := by decide +kernel
theorem dX2_readNumber_61 : decode cX2_readNumber 61 = .ok (.if_icmp .le 5, 3) := by decide +kernel
theorem dX2_readNumber_64 : decode cX2_readNumber 64 = .ok (.iload_n 3, 1) := by decide +kernel
theorem dX2_readNumber_65 : decode cX2_readNumber 65 = .ok (.ireturn, 1) := by decide +kernel
theorem dX2_readNumber_66 : decode cX2_readNumber 66 = .ok (.iload_n 3, 1) := by decide +kernel
theorem dX2_readNumber_67 : decode cX2_readNumber 67 = .ok (.bipush 10, 2) := by decide +kernel
theorem dX2_readNumber_69 : decode cX2_readNumber 69 = .ok (.imul, 1) := by decide +kernel
theorem dX2_readNumber_70 : decode cX2_readNumber 70 = .ok (.iload 4, 2) := by decide +kernel
theorem dX2_readNumber_72 : decode cX2_readNumber 72 = .ok (.iadd, 1) := by decide +kernel
theorem dX2_readNumber_73 : decode cX2_readNumber 73 = .ok (.istore_n 3, 1) := by decide +kernel
theorem dX2_readNumber_74 : decode cX2_readNumber 74 = .ok (.aload_n 0, 1) := by decide +kernel
theorem dX2_readNumber_75 : decode cX2_readNumber 75 = .ok (.dup, 1) := by decide +kernel
theorem dX2_readNumber_76 : decode cX2_readNumber 76 = .ok (.getfield 35, 3) := by decide +kernel
theorem dX2_readNumber_79 : decode cX2_readNumber 79 = .ok (.iconst 1, 1) := by decide +kernel
theorem dX2_readNumber_80 : decode cX2_readNumber 80 = .ok (.iadd, 1) := by decide +kernel
theorem dX2_readNumber_81 : decode cX2_readNumber 81 = .ok (.putfield 35, 3) := by decide +kernel
theorem dX2_readNumber_84 : decode cX2_readNumber 84 = .ok (.goto (-57), 3) := by decide +kernel
theorem dX2_readNumber_87 : decode cX2_readNumber 87 = .ok (.iload_n 3, 1) := by decide +kernel
theorem dX2_readNumber_88 : decode cX2_readNumber 88 = .ok (.ireturn, 1) := by decide +kernel
theorem dX2_digitHere_0 : decode cX2_digitHere 0 = .ok (.aload_n 0, 1) := by decide +kernel
theorem dX2_digitHere_1 : decode cX2_digitHere 1 = .ok (.getfield 35, 3) := by decide +kernel
theorem dX2_digitHere_4 : decode cX2_digitHere 4 = .ok (.aload_n 0, 1) := by decide +kernel
theorem dX2_digitHere_5 : decode cX2_digitHere 5 = .ok (.getfield 31, 3) := by decide +kernel
theorem dX2_digitHere_8 : decode cX2_digitHere 8 = .ok (.if_icmp .ge 31, 3) := by decide +kernel
theorem dX2_digitHere_11 : decode cX2_digitHere 11 = .ok (.aload_n 0, 1) := by decide +kernel
theorem dX2_digitHere_12 : decode cX2_digitHere 12 = .ok (.getfield 9, 3) := by decide +kernel
theorem dX2_digitHere_15 : decode cX2_digitHere 15 = .ok (.aload_n 0, 1) := by decide +kernel
theorem dX2_digitHere_16 : decode cX2_digitHere 16 = .ok (.getfield 35, 3) := by decide +kernel
theorem dX2_digitHere_19 : decode cX2_digitHere 19 = .ok (.caload, 1) := by decide +kernel
theorem dX2_digitHere_20 : decode cX2_digitHere 20 = .ok (.bipush 48, 2) := by decide +kernel
theorem dX2_digitHere_22 : decode cX2_digitHere 22 = .ok (.if_icmp .lt 17, 3) := by decide +kernel
theorem dX2_digitHere_25 : decode cX2_digitHere 25 = .ok (.aload_n 0, 1) := by decide +kernel
theorem dX2_digitHere_26 : decode cX2_digitHere 26 = .ok (.getfield 9, 3) := by decide +kernel
theorem dX2_digitHere_29 : decode cX2_digitHere 29 = .ok (.aload_n 0, 1) := by decide +kernel
theorem dX2_digitHere_30 : decode cX2_digitHere 30 = .ok (.getfield 35, 3) := by decide +kernel
theorem dX2_digitHere_33 : decode cX2_digitHere 33 = .ok (.caload, 1) := by decide +kernel
theorem dX2_digitHere_34 : decode cX2_digitHere 34 = .ok (.bipush 57, 2) := by decide +kernel
theorem dX2_digitHere_36 : decode cX2_digitHere 36 = .ok (.if_icmp .le 5, 3) := by decide +kernel
theorem dX2_digitHere_39 : decode cX2_digitHere 39 = .ok (.iconst (-1), 1) := by decide +kernel
theorem dX2_digitHere_40 : decode cX2_digitHere 40 = .ok (.ireturn, 1) := by decide +kernel
theorem dX2_digitHere_41 : decode cX2_digitHere 41 = .ok (.aload_n 0, 1) := by decide +kernel
theorem dX2_digitHere_42 : decode cX2_digitHere 42 = .ok (.getfield 9, 3) := by decide +kernel
theorem dX2_digitHere_45 : decode cX2_digitHere 45 = .ok (.aload_n 0, 1) := by decide +kernel
theorem dX2_digitHere_46 : decode cX2_digitHere 46 = .ok (.getfield 35, 3) := by decide +kernel
theorem dX2_digitHere_49 : decode cX2_digitHere 49 = .ok (.caload, 1) := by decide +kernel
theorem dX2_digitHere_50 : decode cX2_digitHere 50 = .ok (.bipush 48, 2) := by decide +kernel
theorem dX2_digitHere_52 : decode cX2_digitHere 52 = .ok (.isub, 1) := by decide +kernel
theorem dX2_digitHere_53 : decode cX2_digitHere 53 = .ok (.ireturn, 1) := by decide +kernel
theorem dX2_skip_0 : decode cX2_skip 0 = .ok (.aload_n 0, 1) := by decide +kernel
theorem dX2_skip_1 : decode cX2_skip 1 = .ok (.getfield 35, 3) := by decide +kernel
theorem dX2_skip_4 : decode cX2_skip 4 = .ok (.aload_n 0, 1) := by decide +kernel
theorem dX2_skip_5 : decode cX2_skip 5 = .ok (.getfield 31, 3) := by decide +kernel
theorem dX2_skip_8 : decode cX2_skip 8 = .ok (.if_icmp .ge 16, 3) := by decide +kernel
theorem dX2_skip_11 : decode cX2_skip 11 = .ok (.aload_n 0, 1) := by decide +kernel
theorem dX2_skip_12 : decode cX2_skip 12 = .ok (.getfield 9, 3) := by decide +kernel
theorem dX2_skip_15 : decode cX2_skip 15 = .ok (.aload_n 0, 1) := by decide +kernel
theorem dX2_skip_16 : decode cX2_skip 16 = .ok (.getfield 35, 3) := by decide +kernel
theorem dX2_skip_19 : decode cX2_skip 19 = .ok (.caload, 1) := by decide +kernel
theorem dX2_skip_20 : decode cX2_skip 20 = .ok (.iload_n 1, 1) := by decide +kernel
theorem dX2_skip_21 : decode cX2_skip 21 = .ok (.if_icmp .eq 5, 3) := by decide +kernel
theorem dX2_skip_24 : decode cX2_skip 24 = .ok (.iconst 0, 1) := by decide +kernel
theorem dX2_skip_25 : decode cX2_skip 25 = .ok (.ireturn, 1) := by decide +kernel
theorem dX2_skip_26 : decode cX2_skip 26 = .ok (.aload_n 0, 1) := by decide +kernel
theorem dX2_skip_27 : decode cX2_skip 27 = .ok (.dup, 1) := by decide +kernel
theorem dX2_skip_28 : decode cX2_skip 28 = .ok (.getfield 35, 3) := by decide +kernel
theorem dX2_skip_31 : decode cX2_skip 31 = .ok (.iconst 1, 1) := by decide +kernel
theorem dX2_skip_32 : decode cX2_skip 32 = .ok (.iadd, 1) := by decide +kernel
theorem dX2_skip_33 : decode cX2_skip 33 = .ok (.putfield 35, 3) := by decide +kernel
theorem dX2_skip_36 : decode cX2_skip 36 = .ok (.iconst 1, 1) := by decide +kernel
theorem dX2_skip_37 : decode cX2_skip 37 = .ok (.ireturn, 1) := by decide +kernel
theorem dX3_init_0 : decode cX3_init 0 = .ok (.aload_n 0, 1) := by decide +kernel
theorem dX3_init_1 : decode cX3_init 1 = .ok (.invokespecial 3, 3) := by decide +kernel
theorem dX3_init_4 : decode cX3_init 4 = .ok (.aload_n 0, 1) := by decide +kernel
theorem dX3_init_5 : decode cX3_init 5 = .ok (.bipush 12, 2) := by decide +kernel
theorem dX3_init_7 : decode cX3_init 7 = .ok (.newarray .int, 2) := by decide +kernel
theorem dX3_init_9 : decode cX3_init 9 = .ok (.putfield 9, 3) := by decide +kernel
theorem dX3_init_12 : decode cX3_init 12 = .ok (.aload_n 0, 1) := by decide +kernel
theorem dX3_init_13 : decode cX3_init 13 = .ok (.bipush 12, 2) := by decide +kernel
theorem dX3_init_15 : decode cX3_init 15 = .ok (.newarray .int, 2) := by decide +kernel
theorem dX3_init_17 : decode cX3_init 17 = .ok (.putfield 15, 3) := by decide +kernel
theorem dX3_init_20 : decode cX3_init 20 = .ok (.aload_n 0, 1) := by decide +kernel
theorem dX3_init_21 : decode cX3_init 21 = .ok (.bipush 12, 2) := by decide +kernel
theorem dX3_init_23 : decode cX3_init 23 = .ok (.newarray .int, 2) := by decide +kernel
theorem dX3_init_25 : decode cX3_init 25 = .ok (.putfield 18, 3) := by decide +kernel
theorem dX3_init_28 : decode cX3_init 28 = .ok (.aload_n 0, 1) := by decide +kernel
theorem dX3_init_29 : decode cX3_init 29 = .ok (.bipush 12, 2) := by decide +kernel
theorem dX3_init_31 : decode cX3_init 31 = .ok (.newarray .int, 2) := by decide +kernel
theorem dX3_init_33 : decode cX3_init 33 = .ok (.putfield 21, 3) := by decide +kernel
theorem dX3_init_36 : decode cX3_init 36 = .ok (.aload_n 0, 1) := by decide +kernel
theorem dX3_init_37 : decode cX3_init 37 = .ok (.bipush 12, 2) := by decide +kernel
theorem dX3_init_39 : decode cX3_init 39 = .ok (.newarray .int, 2) := by decide +kernel
theorem dX3_init_41 : decode cX3_init 41 = .ok (.putfield 24, 3) := by decide +kernel
theorem dX3_init_44 : decode cX3_init 44 = .ok (.aload_n 0, 1) := by decide +kernel
theorem dX3_init_45 : decode cX3_init 45 = .ok (.bipush 12, 2) := by decide +kernel
theorem dX3_init_47 : decode cX3_init 47 = .ok (.newarray .int, 2) := by decide +kernel
theorem dX3_init_49 : decode cX3_init 49 = .ok (.putfield 27, 3) := by decide +kernel
theorem dX3_init_52 : decode cX3_init 52 = .ok (.return_, 1) := by decide +kernel
theorem dX3_copyFrom_0 : decode cX3_copyFrom 0 = .ok (.aload_n 0, 1) := by decide +kernel
theorem dX3_copyFrom_1 : decode cX3_copyFrom 1 = .ok (.aload_n 1, 1) := by decide +kernel
theorem dX3_copyFrom_2 : decode cX3_copyFrom 2 = .ok (.getfield 30, 3) := by decide +kernel
theorem dX3_copyFrom_5 : decode cX3_copyFrom 5 = .ok (.putfield 30, 3) := by decide +kernel
theorem dX3_copyFrom_8 : decode cX3_copyFrom 8 = .ok (.aload_n 1, 1) := by decide +kernel
theorem dX3_copyFrom_9 : decode cX3_copyFrom 9 = .ok (.getfield 9, 3) := by decide +kernel
theorem dX3_copyFrom_12 : decode cX3_copyFrom 12 = .ok (.iconst 0, 1) := by decide +kernel
theorem dX3_copyFrom_13 : decode cX3_copyFrom 13 = .ok (.aload_n 0, 1) := by decide +kernel
theorem dX3_copyFrom_14 : decode cX3_copyFrom 14 = .ok (.getfield 9, 3) := by decide +kernel
theorem dX3_copyFrom_17 : decode cX3_copyFrom 17 = .ok (.iconst 0, 1) := by decide +kernel
theorem dX3_copyFrom_18 : decode cX3_copyFrom 18 = .ok (.bipush 12, 2) := by decide +kernel
theorem dX3_copyFrom_20 : decode cX3_copyFrom 20 = .ok (.invokestatic 34, 3) := by decide +kernel
theorem dX3_copyFrom_23 : decode cX3_copyFrom 23 = .ok (.aload_n 1, 1) := by decide +kernel
theorem dX3_copyFrom_24 : decode cX3_copyFrom 24 = .ok (.getfield 15, 3) := by decide +kernel
theorem dX3_copyFrom_27 : decode cX3_copyFrom 27 = .ok (.iconst 0, 1) := by decide +kernel
theorem dX3_copyFrom_28 : decode cX3_copyFrom 28 = .ok (.aload_n 0, 1) := by decide +kernel
theorem dX3_copyFrom_29 : decode cX3_copyFrom 29 = .ok (.getfield 15, 3) := by decide +kernel
theorem dX3_copyFrom_32 : decode cX3_copyFrom 32 = .ok (.iconst 0, 1) := by decide +kernel
theorem dX3_copyFrom_33 : decode cX3_copyFrom 33 = .ok (.bipush 12, 2) := by decide +kernel
theorem dX3_copyFrom_35 : decode cX3_copyFrom 35 = .ok (.invokestatic 34, 3) := by decide +kernel
theorem dX3_copyFrom_38 : decode cX3_copyFrom 38 = .ok (.aload_n 1, 1) := by decide +kernel
theorem dX3_copyFrom_39 : decode cX3_copyFrom 39 = .ok (.getfield 18, 3) := by decide +kernel
theorem dX3_copyFrom_42 : decode cX3_copyFrom 42 = .ok (.iconst 0, 1) := by decide +kernel
theorem dX3_copyFrom_43 : decode cX3_copyFrom 43 = .ok (.aload_n 0, 1) := by decide +kernel
theorem dX3_copyFrom_44 : decode cX3_copyFrom 44 = .ok (.getfield 18, 3) := by decide +kernel
theorem dX3_copyFrom_47 : decode cX3_copyFrom 47 = .ok (.iconst 0, 1) := by decide +kernel
theorem dX3_copyFrom_48 : decode cX3_copyFrom 48 = .ok (.bipush 12, 2) := by decide +kernel
theorem dX3_copyFrom_50 : decode cX3_copyFrom 50 = .ok (.invokestatic 34, 3) := by decide +kernel
theorem dX3_copyFrom_53 : decode cX3_copyFrom 53 = .ok (.aload_n 1, 1) := by decide +kernel
theorem dX3_copyFrom_54 : decode cX3_copyFrom 54 = .ok (.getfield 21, 3) := by decide +kernel
theorem dX3_copyFrom_57 : decode cX3_copyFrom 57 = .ok (.iconst 0, 1) := by decide +kernel
theorem dX3_copyFrom_58 : decode cX3_copyFrom 58 = .ok (.aload_n 0, 1) := by decide +kernel
theorem dX3_copyFrom_59 : decode cX3_copyFrom 59 = .ok (.getfield 21, 3) := by decide +kernel
theorem dX3_copyFrom_62 : decode cX3_copyFrom 62 = .ok (.iconst 0, 1) := by decide +kernel
theorem dX3_copyFrom_63 : decode cX3_copyFrom 63 = .ok (.bipush 12, 2) := by decide +kernel
theorem dX3_copyFrom_65 : decode cX3_copyFrom 65 = .ok (.invokestatic 34, 3) := by decide +kernel
theorem dX3_copyFrom_68 : decode cX3_copyFrom 68 = .ok (.aload_n 1, 1) := by decide +kernel
theorem dX3_copyFrom_69 : decode cX3_copyFrom 69 = .ok (.getfield 24, 3) := by decide +kernel
theorem dX3_copyFrom_72 : decode cX3_copyFrom 72 = .ok (.iconst 0, 1) := by decide +kernel
theorem dX3_copyFrom_73 : decode cX3_copyFrom 73 = .ok (.aload_n 0, 1) := by decide +kernel
theorem dX3_copyFrom_74 : decode cX3_copyFrom 74 = .ok (.getfield 24, 3) := by decide +kernel
theorem dX3_copyFrom_77 : decode cX3_copyFrom 77 = .ok (.iconst 0, 1) := by decide +kernel
theorem dX3_copyFrom_78 : decode cX3_copyFrom 78 = .ok (.bipush 12, 2) := by decide +kernel
theorem dX3_copyFrom_80 : decode cX3_copyFrom 80 = .ok (.invokestatic 34, 3) := by decide +kernel
theorem dX3_copyFrom_83 : decode cX3_copyFrom 83 = .ok (.aload_n 1, 1) := by decide +kernel
theorem dX3_copyFrom_84 : decode cX3_copyFrom 84 = .ok (.getfield 27, 3) := by decide +kernel
theorem dX3_copyFrom_87 : decode cX3_copyFrom 87 = .ok (.iconst 0, 1) := by decide +kernel
theorem dX3_copyFrom_88 : decode cX3_copyFrom 88 = .ok (.aload_n 0, 1) := by decide +kernel
theorem dX3_copyFrom_89 : decode cX3_copyFrom 89 = .ok (.getfield 27, 3) := by decide +kernel
theorem dX3_copyFrom_92 : decode cX3_copyFrom 92 = .ok (.iconst 0, 1) := by decide +kernel
theorem dX3_copyFrom_93 : decode cX3_copyFrom 93 = .ok (.bipush 12, 2) := by decide +kernel
theorem dX3_copyFrom_95 : decode cX3_copyFrom 95 = .ok (.invokestatic 34, 3) := by decide +kernel
theorem dX3_copyFrom_98 : decode cX3_copyFrom 98 = .ok (.return_, 1) := by decide +kernel
theorem dX3_has_0 : decode cX3_has 0 = .ok (.iload_n 1, 1) := by decide +kernel
theorem dX3_has_1 : decode cX3_has 1 = .ok (.ifCond .lt 15, 3) := by decide +kernel
theorem dX3_has_4 : decode cX3_has 4 = .ok (.iload_n 1, 1) := by decide +kernel
theorem dX3_has_5 : decode cX3_has 5 = .ok (.aload_n 0, 1) := by decide +kernel
theorem dX3_has_6 : decode cX3_has 6 = .ok (.getfield 30, 3) := by decide +kernel
theorem dX3_has_9 : decode cX3_has 9 = .ok (.if_icmp .ge 7, 3) := by decide +kernel
theorem dX3_has_12 : decode cX3_has 12 = .ok (.iconst 1, 1) := by decide +kernel
theorem dX3_has_13 : decode cX3_has 13 = .ok (.goto 4, 3) := by decide +kernel
theorem dX3_has_16 : decode cX3_has 16 = .ok (.iconst 0, 1) := by decide +kernel
theorem dX3_has_17 : decode cX3_has 17 = .ok (.ireturn, 1) := by decide +kernel
theorem dX3_add_0 : decode cX3_add 0 = .ok (.aload_n 0, 1) := by decide +kernel
theorem dX3_add_1 : decode cX3_add 1 = .ok (.getfield 9, 3) := by decide +kernel
theorem dX3_add_4 : decode cX3_add 4 = .ok (.aload_n 0, 1) := by decide +kernel
theorem dX3_add_5 : decode cX3_add 5 = .ok (.getfield 30, 3) := by decide +kernel
theorem dX3_add_8 : decode cX3_add 8 = .ok (.iload_n 1, 1) := by decide +kernel
theorem dX3_add_9 : decode cX3_add 9 = .ok (.iastore, 1) := by decide +kernel
theorem dX3_add_10 : decode cX3_add 10 = .ok (.aload_n 0, 1) := by decide +kernel
theorem dX3_add_11 : decode cX3_add 11 = .ok (.getfield 15, 3) := by decide +kernel
theorem dX3_add_14 : decode cX3_add 14 = .ok (.aload_n 0, 1) := by decide +kernel
theorem dX3_add_15 : decode cX3_add 15 = .ok (.getfield 30, 3) := by decide +kernel
theorem dX3_add_18 : decode cX3_add 18 = .ok (.iload_n 2, 1) := by decide +kernel
theorem dX3_add_19 : decode cX3_add 19 = .ok (.iastore, 1) := by decide +kernel
theorem dX3_add_20 : decode cX3_add 20 = .ok (.aload_n 0, 1) := by decide +kernel
theorem dX3_add_21 : decode cX3_add 21 = .ok (.getfield 18, 3) := by decide +kernel
theorem dX3_add_24 : decode cX3_add 24 = .ok (.aload_n 0, 1) := by decide +kernel
theorem dX3_add_25 : decode cX3_add 25 = .ok (.getfield 30, 3) := by decide +kernel
theorem dX3_add_28 : decode cX3_add 28 = .ok (.iload_n 3, 1) := by decide +kernel
theorem dX3_add_29 : decode cX3_add 29 = .ok (.iastore, 1) := by decide +kernel
theorem dX3_add_30 : decode cX3_add 30 = .ok (.aload_n 0, 1) := by decide +kernel
theorem dX3_add_31 : decode cX3_add 31 = .ok (.getfield 21, 3) := by decide +kernel
theorem dX3_add_34 : decode cX3_add 34 = .ok (.aload_n 0, 1) := by decide +kernel
theorem dX3_add_35 : decode cX3_add 35 = .ok (.getfield 30, 3) := by decide +kernel
theorem dX3_add_38 : decode cX3_add 38 = .ok (.iload 4, 2) := by decide +kernel
theorem dX3_add_40 : decode cX3_add 40 = .ok (.iastore, 1) := by decide +kernel
theorem dX3_add_41 : decode cX3_add 41 = .ok (.aload_n 0, 1) := by decide +kernel
theorem dX3_add_42 : decode cX3_add 42 = .ok (.getfield 24, 3) := by decide +kernel
theorem dX3_add_45 : decode cX3_add 45 = .ok (.aload_n 0, 1) := by decide +kernel
theorem dX3_add_46 : decode cX3_add 46 = .ok (.getfield 30, 3) := by decide +kernel
theorem dX3_add_49 : decode cX3_add 49 = .ok (.iload 5, 2) := by decide +kernel
theorem dX3_add_51 : decode cX3_add 51 = .ok (.iastore, 1) := by decide +kernel
theorem dX3_add_52 : decode cX3_add 52 = .ok (.aload_n 0, 1) := by decide +kernel
theorem dX3_add_53 : decode cX3_add 53 = .ok (.getfield 27, 3) := by decide +kernel
theorem dX3_add_56 : decode cX3_add 56 = .ok (.aload_n 0, 1) := by decide +kernel
theorem dX3_add_57 : decode cX3_add 57 = .ok (.getfield 30, 3) := by decide +kernel
theorem dX3_add_60 : decode cX3_add 60 = .ok (.iconst 0, 1) := by decide +kernel
theorem dX3_add_61 : decode cX3_add 61 = .ok (.iastore, 1) := by decide +kernel
theorem dX3_add_62 : decode cX3_add 62 = .ok (.aload_n 0, 1) := by decide +kernel
theorem dX3_add_63 : decode cX3_add 63 = .ok (.dup, 1) := by decide +kernel
theorem dX3_add_64 : decode cX3_add 64 = .ok (.getfield 30, 3) := by decide +kernel
theorem dX3_add_67 : decode cX3_add 67 = .ok (.iconst 1, 1) := by decide +kernel
theorem dX3_add_68 : decode cX3_add 68 = .ok (.iadd, 1) := by decide +kernel
theorem dX3_add_69 : decode cX3_add 69 = .ok (.putfield 30, 3) := by decide +kernel
theorem dX3_add_72 : decode cX3_add 72 = .ok (.aload_n 0, 1) := by decide +kernel
theorem dX3_add_73 : decode cX3_add 73 = .ok (.getfield 30, 3) := by decide +kernel
theorem dX3_add_76 : decode cX3_add 76 = .ok (.iconst 1, 1) := by decide +kernel
theorem dX3_add_77 : decode cX3_add 77 = .ok (.isub, 1) := by decide +kernel
theorem dX3_add_78 : decode cX3_add 78 = .ok (.ireturn, 1) := by decide +kernel
theorem dX3_madeBy_0 : decode cX3_madeBy 0 = .ok (.iconst 0, 1) := by decide +kernel
theorem dX3_madeBy_1 : decode cX3_madeBy 1 = .ok (.istore_n 2, 1) := by decide +kernel
theorem dX3_madeBy_2 : decode cX3_madeBy 2 = .ok (.iload_n 2, 1) := by decide +kernel
theorem dX3_madeBy_3 : decode cX3_madeBy 3 = .ok (.aload_n 0, 1) := by decide +kernel
theorem dX3_madeBy_4 : decode cX3_madeBy 4 = .ok (.getfield 30, 3) := by decide +kernel
theorem dX3_madeBy_7 : decode cX3_madeBy 7 = .ok (.if_icmp .ge 21, 3) := by decide +kernel
theorem dX3_madeBy_10 : decode cX3_madeBy 10 = .ok (.aload_n 0, 1) := by decide +kernel
theorem dX3_madeBy_11 : decode cX3_madeBy 11 = .ok (.getfield 9, 3) := by decide +kernel
theorem dX3_madeBy_14 : decode cX3_madeBy 14 = .ok (.iload_n 2, 1) := by decide +kernel
theorem dX3_madeBy_15 : decode cX3_madeBy 15 = .ok (.iaload, 1) := by decide +kernel
theorem dX3_madeBy_16 : decode cX3_madeBy 16 = .ok (.iload_n 1, 1) := by decide +kernel
theorem dX3_madeBy_17 : decode cX3_madeBy 17 = .ok (.if_icmp .ne 5, 3) := by decide +kernel
theorem dX3_madeBy_20 : decode cX3_madeBy 20 = .ok (.iload_n 2, 1) := by decide +kernel
theorem dX3_madeBy_21 : decode cX3_madeBy 21 = .ok (.ireturn, 1) := by decide +kernel
theorem dX3_madeBy_22 : decode cX3_madeBy 22 = .ok (.iinc 2 1, 3) := by decide +kernel
theorem dX3_madeBy_25 : decode cX3_madeBy 25 = .ok (.goto (-23), 3) := by decide +kernel
theorem dX3_madeBy_28 : decode cX3_madeBy 28 = .ok (.bipush (-5), 2) := by decide +kernel
theorem dX3_madeBy_30 : decode cX3_madeBy 30 = .ok (.ireturn, 1) := by decide +kernel
theorem dX3_makers_0 : decode cX3_makers 0 = .ok (.iconst 0, 1) := by decide +kernel
theorem dX3_makers_1 : decode cX3_makers 1 = .ok (.istore_n 1, 1) := by decide +kernel
theorem dX3_makers_2 : decode cX3_makers 2 = .ok (.iconst 0, 1) := by decide +kernel
theorem dX3_makers_3 : decode cX3_makers 3 = .ok (.istore_n 2, 1) := by decide +kernel
theorem dX3_makers_4 : decode cX3_makers 4 = .ok (.iload_n 2, 1) := by decide +kernel
theorem dX3_makers_5 : decode cX3_makers 5 = .ok (.aload_n 0, 1) := by decide +kernel
theorem dX3_makers_6 : decode cX3_makers 6 = .ok (.getfield 30, 3) := by decide +kernel
theorem dX3_makers_9 : decode cX3_makers 9 = .ok (.if_icmp .ge 20, 3) := by decide +kernel
theorem dX3_makers_12 : decode cX3_makers 12 = .ok (.iload_n 1, 1) := by decide +kernel
theorem dX3_makers_13 : decode cX3_makers 13 = .ok (.iconst 1, 1) := by decide +kernel
theorem dX3_makers_14 : decode cX3_makers 14 = .ok (.aload_n 0, 1) := by decide +kernel
theorem dX3_makers_15 : decode cX3_makers 15 = .ok (.getfield 9, 3) := by decide +kernel
theorem dX3_makers_18 : decode cX3_makers 18 = .ok (.iload_n 2, 1) := by decide +kernel
theorem dX3_makers_19 : decode cX3_makers 19 = .ok (.iaload, 1) := by decide +kernel
theorem dX3_makers_20 : decode cX3_makers 20 = .ok (.ishl, 1) := by decide +kernel
theorem dX3_makers_21 : decode cX3_makers 21 = .ok (.ior, 1) := by decide +kernel
theorem dX3_makers_22 : decode cX3_makers 22 = .ok (.istore_n 1, 1) := by decide +kernel
theorem dX3_makers_23 : decode cX3_makers 23 = .ok (.iinc 2 1, 3) := by decide +kernel
theorem dX3_makers_26 : decode cX3_makers 26 = .ok (.goto (-22), 3) := by decide +kernel
theorem dX3_makers_29 : decode cX3_makers 29 = .ok (.iload_n 1, 1) := by decide +kernel
theorem dX3_makers_30 : decode cX3_makers 30 = .ok (.ireturn, 1) := by decide +kernel
theorem dX3_secondedBy_0 : decode cX3_secondedBy 0 = .ok (.iconst 0, 1) := by decide +kernel
theorem dX3_secondedBy_1 : decode cX3_secondedBy 1 = .ok (.istore_n 2, 1) := by decide +kernel
theorem dX3_secondedBy_2 : decode cX3_secondedBy 2 = .ok (.iconst 0, 1) := by decide +kernel
theorem dX3_secondedBy_3 : decode cX3_secondedBy 3 = .ok (.istore_n 3, 1) := by decide +kernel
theorem dX3_secondedBy_4 : decode cX3_secondedBy 4 = .ok (.iload_n 3, 1) := by decide +kernel
theorem dX3_secondedBy_5 : decode cX3_secondedBy 5 = .ok (.aload_n 0, 1) := by decide +kernel
theorem dX3_secondedBy_6 : decode cX3_secondedBy 6 = .ok (.getfield 30, 3) := by decide +kernel
theorem dX3_secondedBy_9 : decode cX3_secondedBy 9 = .ok (.if_icmp .ge 28, 3) := by decide +kernel
theorem dX3_secondedBy_12 : decode cX3_secondedBy 12 = .ok (.aload_n 0, 1) := by decide +kernel
theorem dX3_secondedBy_13 : decode cX3_secondedBy 13 = .ok (.getfield 27, 3) := by decide +kernel
theorem dX3_secondedBy_16 : decode cX3_secondedBy 16 = .ok (.iload_n 3, 1) := by decide +kernel
theorem dX3_secondedBy_17 : decode cX3_secondedBy 17 = .ok (.iaload, 1) := by decide +kernel
theorem dX3_secondedBy_18 : decode cX3_secondedBy 18 = .ok (.iload_n 1, 1) := by decide +kernel
theorem dX3_secondedBy_19 : decode cX3_secondedBy 19 = .ok (.ishr, 1) := by decide +kernel
theorem dX3_secondedBy_20 : decode cX3_secondedBy 20 = .ok (.iconst 1, 1) := by decide +kernel
theorem dX3_secondedBy_21 : decode cX3_secondedBy 21 = .ok (.iand, 1) := by decide +kernel
theorem dX3_secondedBy_22 : decode cX3_secondedBy 22 = .ok (.ifCond .eq 9, 3) := by decide +kernel
theorem dX3_secondedBy_25 : decode cX3_secondedBy 25 = .ok (.iload_n 2, 1) := by decide +kernel
theorem dX3_secondedBy_26 : decode cX3_secondedBy 26 = .ok (.iconst 1, 1) := by decide +kernel
theorem dX3_secondedBy_27 : decode cX3_secondedBy 27 = .ok (.iload_n 3, 1) := by decide +kernel
theorem dX3_secondedBy_28 : decode cX3_secondedBy 28 = .ok (.ishl, 1) := by decide +kernel
theorem dX3_secondedBy_29 : decode cX3_secondedBy 29 = .ok (.ior, 1) := by decide +kernel
theorem dX3_secondedBy_30 : decode cX3_secondedBy 30 = .ok (.istore_n 2, 1) := by decide +kernel
theorem dX3_secondedBy_31 : decode cX3_secondedBy 31 = .ok (.iinc 3 1, 3) := by decide +kernel
theorem dX3_secondedBy_34 : decode cX3_secondedBy 34 = .ok (.goto (-30), 3) := by decide +kernel
theorem dX3_secondedBy_37 : decode cX3_secondedBy 37 = .ok (.iload_n 2, 1) := by decide +kernel
theorem dX3_secondedBy_38 : decode cX3_secondedBy 38 = .ok (.ireturn, 1) := by decide +kernel
theorem dX3_atRank_0 : decode cX3_atRank 0 = .ok (.iconst 0, 1) := by decide +kernel
theorem dX3_atRank_1 : decode cX3_atRank 1 = .ok (.istore_n 2, 1) := by decide +kernel
theorem dX3_atRank_2 : decode cX3_atRank 2 = .ok (.iload_n 2, 1) := by decide +kernel
theorem dX3_atRank_3 : decode cX3_atRank 3 = .ok (.aload_n 0, 1) := by decide +kernel
theorem dX3_atRank_4 : decode cX3_atRank 4 = .ok (.getfield 30, 3) := by decide +kernel
theorem dX3_atRank_7 : decode cX3_atRank 7 = .ok (.if_icmp .ge 20, 3) := by decide +kernel
theorem dX3_atRank_10 : decode cX3_atRank 10 = .ok (.aload_n 0, 1) := by decide +kernel
theorem dX3_atRank_11 : decode cX3_atRank 11 = .ok (.iload_n 2, 1) := by decide +kernel
theorem dX3_atRank_12 : decode cX3_atRank 12 = .ok (.invokevirtual 40, 3) := by decide +kernel
theorem dX3_atRank_15 : decode cX3_atRank 15 = .ok (.iload_n 1, 1) := by decide +kernel
theorem dX3_atRank_16 : decode cX3_atRank 16 = .ok (.if_icmp .ne 5, 3) := by decide +kernel
theorem dX3_atRank_19 : decode cX3_atRank 19 = .ok (.iload_n 2, 1) := by decide +kernel
theorem dX3_atRank_20 : decode cX3_atRank 20 = .ok (.ireturn, 1) := by decide +kernel
theorem dX3_atRank_21 : decode cX3_atRank 21 = .ok (.iinc 2 1, 3) := by decide +kernel
theorem dX3_atRank_24 : decode cX3_atRank 24 = .ok (.goto (-22), 3) := by decide +kernel
theorem dX3_atRank_27 : decode cX3_atRank 27 = .ok (.bipush (-5), 2) := by decide +kernel
theorem dX3_atRank_29 : decode cX3_atRank 29 = .ok (.ireturn, 1) := by decide +kernel
theorem dX3_rankOf_0 : decode cX3_rankOf 0 = .ok (.iconst 0, 1) := by decide +kernel
theorem dX3_rankOf_1 : decode cX3_rankOf 1 = .ok (.istore_n 2, 1) := by decide +kernel
theorem dX3_rankOf_2 : decode cX3_rankOf 2 = .ok (.iconst 0, 1) := by decide +kernel
theorem dX3_rankOf_3 : decode cX3_rankOf 3 = .ok (.istore_n 3, 1) := by decide +kernel
theorem dX3_rankOf_4 : decode cX3_rankOf 4 = .ok (.iload_n 3, 1) := by decide +kernel
theorem dX3_rankOf_5 : decode cX3_rankOf 5 = .ok (.aload_n 0, 1) := by decide +kernel
theorem dX3_rankOf_6 : decode cX3_rankOf 6 = .ok (.getfield 30, 3) := by decide +kernel
theorem dX3_rankOf_9 : decode cX3_rankOf 9 = .ok (.if_icmp .ge 71, 3) := by decide +kernel
theorem dX3_rankOf_12 : decode cX3_rankOf 12 = .ok (.aload_n 0, 1) := by decide +kernel
theorem dX3_rankOf_13 : decode cX3_rankOf 13 = .ok (.getfield 24, 3) := by decide +kernel
theorem dX3_rankOf_16 : decode cX3_rankOf 16 = .ok (.iload_n 3, 1) := by decide +kernel
theorem dX3_rankOf_17 : decode cX3_rankOf 17 = .ok (.iaload, 1) := by decide +kernel
theorem dX3_rankOf_18 : decode cX3_rankOf 18 = .ok (.aload_n 0, 1) := by decide +kernel
theorem dX3_rankOf_19 : decode cX3_rankOf 19 = .ok (.getfield 24, 3) := by decide +kernel
theorem dX3_rankOf_22 : decode cX3_rankOf 22 = .ok (.iload_n 1, 1) := by decide +kernel
theorem dX3_rankOf_23 : decode cX3_rankOf 23 = .ok (.iaload, 1) := by decide +kernel
theorem dX3_rankOf_24 : decode cX3_rankOf 24 = .ok (.if_icmp .le 7, 3) := by decide +kernel
theorem dX3_rankOf_27 : decode cX3_rankOf 27 = .ok (.iconst 1, 1) := by decide +kernel
theorem dX3_rankOf_28 : decode cX3_rankOf 28 = .ok (.goto 4, 3) := by decide +kernel
theorem dX3_rankOf_31 : decode cX3_rankOf 31 = .ok (.iconst 0, 1) := by decide +kernel
theorem dX3_rankOf_32 : decode cX3_rankOf 32 = .ok (.istore 4, 2) := by decide +kernel
theorem dX3_rankOf_34 : decode cX3_rankOf 34 = .ok (.aload_n 0, 1) := by decide +kernel
theorem dX3_rankOf_35 : decode cX3_rankOf 35 = .ok (.getfield 24, 3) := by decide +kernel
theorem dX3_rankOf_38 : decode cX3_rankOf 38 = .ok (.iload_n 3, 1) := by decide +kernel
theorem dX3_rankOf_39 : decode cX3_rankOf 39 = .ok (.iaload, 1) := by decide +kernel
theorem dX3_rankOf_40 : decode cX3_rankOf 40 = .ok (.aload_n 0, 1) := by decide +kernel
theorem dX3_rankOf_41 : decode cX3_rankOf 41 = .ok (.getfield 24, 3) := by decide +kernel
theorem dX3_rankOf_44 : decode cX3_rankOf 44 = .ok (.iload_n 1, 1) := by decide +kernel
theorem dX3_rankOf_45 : decode cX3_rankOf 45 = .ok (.iaload, 1) := by decide +kernel
theorem dX3_rankOf_46 : decode cX3_rankOf 46 = .ok (.if_icmp .ne 12, 3) := by decide +kernel
theorem dX3_rankOf_49 : decode cX3_rankOf 49 = .ok (.iload_n 3, 1) := by decide +kernel
theorem dX3_rankOf_50 : decode cX3_rankOf 50 = .ok (.iload_n 1, 1) := by decide +kernel
theorem dX3_rankOf_51 : decode cX3_rankOf 51 = .ok (.if_icmp .ge 7, 3) := by decide +kernel
theorem dX3_rankOf_54 : decode cX3_rankOf 54 = .ok (.iconst 1, 1) := by decide +kernel
theorem dX3_rankOf_55 : decode cX3_rankOf 55 = .ok (.goto 4, 3) := by decide +kernel
theorem dX3_rankOf_58 : decode cX3_rankOf 58 = .ok (.iconst 0, 1) := by decide +kernel
theorem dX3_rankOf_59 : decode cX3_rankOf 59 = .ok (.istore 5, 2) := by decide +kernel
theorem dX3_rankOf_61 : decode cX3_rankOf 61 = .ok (.iload 4, 2) := by decide +kernel
theorem dX3_rankOf_63 : decode cX3_rankOf 63 = .ok (.ifCond .ne 8, 3) := by decide +kernel
theorem dX3_rankOf_66 : decode cX3_rankOf 66 = .ok (.iload 5, 2) := by decide +kernel
theorem dX3_rankOf_68 : decode cX3_rankOf 68 = .ok (.ifCond .eq 6, 3) := by decide +kernel
theorem dX3_rankOf_71 : decode cX3_rankOf 71 = .ok (.iinc 2 1, 3) := by decide +kernel
theorem dX3_rankOf_74 : decode cX3_rankOf 74 = .ok (.iinc 3 1, 3) := by decide +kernel
theorem dX3_rankOf_77 : decode cX3_rankOf 77 = .ok (.goto (-73), 3) := by decide +kernel
theorem dX3_rankOf_80 : decode cX3_rankOf 80 = .ok (.iload_n 2, 1) := by decide +kernel
theorem dX3_rankOf_81 : decode cX3_rankOf 81 = .ok (.ireturn, 1) := by decide +kernel
theorem dX4_init_0 : decode cX4_init 0 = .ok (.aload_n 0, 1) := by decide +kernel
theorem dX4_init_1 : decode cX4_init 1 = .ok (.invokespecial 3, 3) := by decide +kernel
theorem dX4_init_4 : decode cX4_init 4 = .ok (.aload_n 0, 1) := by decide +kernel
theorem dX4_init_5 : decode cX4_init 5 = .ok (.bipush 12, 2) := by decide +kernel
theorem dX4_init_7 : decode cX4_init 7 = .ok (.newarray .int, 2) := by decide +kernel
theorem dX4_init_9 : decode cX4_init 9 = .ok (.putfield 9, 3) := by decide +kernel
theorem dX4_init_12 : decode cX4_init 12 = .ok (.aload_n 0, 1) := by decide +kernel
theorem dX4_init_13 : decode cX4_init 13 = .ok (.bipush 12, 2) := by decide +kernel
theorem dX4_init_15 : decode cX4_init 15 = .ok (.newarray .int, 2) := by decide +kernel
theorem dX4_init_17 : decode cX4_init 17 = .ok (.putfield 15, 3) := by decide +kernel
theorem dX4_init_20 : decode cX4_init 20 = .ok (.aload_n 0, 1) := by decide +kernel
theorem dX4_init_21 : decode cX4_init 21 = .ok (.bipush 12, 2) := by decide +kernel
theorem dX4_init_23 : decode cX4_init 23 = .ok (.newarray .int, 2) := by decide +kernel
theorem dX4_init_25 : decode cX4_init 25 = .ok (.putfield 18, 3) := by decide +kernel
theorem dX4_init_28 : decode cX4_init 28 = .ok (.aload_n 0, 1) := by decide +kernel
theorem dX4_init_29 : decode cX4_init 29 = .ok (.bipush 12, 2) := by decide +kernel
theorem dX4_init_31 : decode cX4_init 31 = .ok (.newarray .int, 2) := by decide +kernel
theorem dX4_init_33 : decode cX4_init 33 = .ok (.putfield 21, 3) := by decide +kernel
theorem dX4_init_36 : decode cX4_init 36 = .ok (.return_, 1) := by decide +kernel
theorem dX4_copyFrom_0 : decode cX4_copyFrom 0 = .ok (.aload_n 0, 1) := by decide +kernel
theorem dX4_copyFrom_1 : decode cX4_copyFrom 1 = .ok (.aload_n 1, 1) := by decide +kernel
theorem dX4_copyFrom_2 : decode cX4_copyFrom 2 = .ok (.getfield 24, 3) := by decide +kernel
theorem dX4_copyFrom_5 : decode cX4_copyFrom 5 = .ok (.putfield 24, 3) := by decide +kernel
theorem dX4_copyFrom_8 : decode cX4_copyFrom 8 = .ok (.aload_n 1, 1) := by decide +kernel
theorem dX4_copyFrom_9 : decode cX4_copyFrom 9 = .ok (.getfield 9, 3) := by decide +kernel
theorem dX4_copyFrom_12 : decode cX4_copyFrom 12 = .ok (.iconst 0, 1) := by decide +kernel
theorem dX4_copyFrom_13 : decode cX4_copyFrom 13 = .ok (.aload_n 0, 1) := by decide +kernel
theorem dX4_copyFrom_14 : decode cX4_copyFrom 14 = .ok (.getfield 9, 3) := by decide +kernel
theorem dX4_copyFrom_17 : decode cX4_copyFrom 17 = .ok (.iconst 0, 1) := by decide +kernel
theorem dX4_copyFrom_18 : decode cX4_copyFrom 18 = .ok (.bipush 12, 2) := by decide +kernel
theorem dX4_copyFrom_20 : decode cX4_copyFrom 20 = .ok (.invokestatic 28, 3) := by decide +kernel
theorem dX4_copyFrom_23 : decode cX4_copyFrom 23 = .ok (.aload_n 1, 1) := by decide +kernel
theorem dX4_copyFrom_24 : decode cX4_copyFrom 24 = .ok (.getfield 15, 3) := by decide +kernel
theorem dX4_copyFrom_27 : decode cX4_copyFrom 27 = .ok (.iconst 0, 1) := by decide +kernel
theorem dX4_copyFrom_28 : decode cX4_copyFrom 28 = .ok (.aload_n 0, 1) := by decide +kernel
theorem dX4_copyFrom_29 : decode cX4_copyFrom 29 = .ok (.getfield 15, 3) := by decide +kernel
theorem dX4_copyFrom_32 : decode cX4_copyFrom 32 = .ok (.iconst 0, 1) := by decide +kernel
theorem dX4_copyFrom_33 : decode cX4_copyFrom 33 = .ok (.bipush 12, 2) := by decide +kernel
theorem dX4_copyFrom_35 : decode cX4_copyFrom 35 = .ok (.invokestatic 28, 3) := by decide +kernel
theorem dX4_copyFrom_38 : decode cX4_copyFrom 38 = .ok (.aload_n 1, 1) := by decide +kernel
theorem dX4_copyFrom_39 : decode cX4_copyFrom 39 = .ok (.getfield 18, 3) := by decide +kernel
theorem dX4_copyFrom_42 : decode cX4_copyFrom 42 = .ok (.iconst 0, 1) := by decide +kernel
theorem dX4_copyFrom_43 : decode cX4_copyFrom 43 = .ok (.aload_n 0, 1) := by decide +kernel
theorem dX4_copyFrom_44 : decode cX4_copyFrom 44 = .ok (.getfield 18, 3) := by decide +kernel
theorem dX4_copyFrom_47 : decode cX4_copyFrom 47 = .ok (.iconst 0, 1) := by decide +kernel
theorem dX4_copyFrom_48 : decode cX4_copyFrom 48 = .ok (.bipush 12, 2) := by decide +kernel
theorem dX4_copyFrom_50 : decode cX4_copyFrom 50 = .ok (.invokestatic 28, 3) := by decide +kernel
theorem dX4_copyFrom_53 : decode cX4_copyFrom 53 = .ok (.aload_n 1, 1) := by decide +kernel
theorem dX4_copyFrom_54 : decode cX4_copyFrom 54 = .ok (.getfield 21, 3) := by decide +kernel
theorem dX4_copyFrom_57 : decode cX4_copyFrom 57 = .ok (.iconst 0, 1) := by decide +kernel
theorem dX4_copyFrom_58 : decode cX4_copyFrom 58 = .ok (.aload_n 0, 1) := by decide +kernel
theorem dX4_copyFrom_59 : decode cX4_copyFrom 59 = .ok (.getfield 21, 3) := by decide +kernel
theorem dX4_copyFrom_62 : decode cX4_copyFrom 62 = .ok (.iconst 0, 1) := by decide +kernel
theorem dX4_copyFrom_63 : decode cX4_copyFrom 63 = .ok (.bipush 12, 2) := by decide +kernel
theorem dX4_copyFrom_65 : decode cX4_copyFrom 65 = .ok (.invokestatic 28, 3) := by decide +kernel
theorem dX4_copyFrom_68 : decode cX4_copyFrom 68 = .ok (.return_, 1) := by decide +kernel
theorem dX4_add_0 : decode cX4_add 0 = .ok (.aload_n 0, 1) := by decide +kernel
theorem dX4_add_1 : decode cX4_add 1 = .ok (.getfield 24, 3) := by decide +kernel
theorem dX4_add_4 : decode cX4_add 4 = .ok (.bipush 12, 2) := by decide +kernel
theorem dX4_add_6 : decode cX4_add 6 = .ok (.if_icmp .ge 73, 3) := by decide +kernel
theorem dX4_add_9 : decode cX4_add 9 = .ok (.aload_n 0, 1) := by decide +kernel
theorem dX4_add_10 : decode cX4_add 10 = .ok (.getfield 9, 3) := by decide +kernel
theorem dX4_add_13 : decode cX4_add 13 = .ok (.aload_n 0, 1) := by decide +kernel
theorem dX4_add_14 : decode cX4_add 14 = .ok (.getfield 24, 3) := by decide +kernel
theorem dX4_add_17 : decode cX4_add 17 = .ok (.aload_n 1, 1) := by decide +kernel
theorem dX4_add_18 : decode cX4_add 18 = .ok (.getfield 34, 3) := by decide +kernel
theorem dX4_add_21 : decode cX4_add 21 = .ok (.iload_n 2, 1) := by decide +kernel
theorem dX4_add_22 : decode cX4_add 22 = .ok (.iaload, 1) := by decide +kernel
theorem dX4_add_23 : decode cX4_add 23 = .ok (.iastore, 1) := by decide +kernel
theorem dX4_add_24 : decode cX4_add 24 = .ok (.aload_n 0, 1) := by decide +kernel
theorem dX4_add_25 : decode cX4_add 25 = .ok (.getfield 15, 3) := by decide +kernel
theorem dX4_add_28 : decode cX4_add 28 = .ok (.aload_n 0, 1) := by decide +kernel
theorem dX4_add_29 : decode cX4_add 29 = .ok (.getfield 24, 3) := by decide +kernel
theorem dX4_add_32 : decode cX4_add 32 = .ok (.aload_n 1, 1) := by decide +kernel
theorem dX4_add_33 : decode cX4_add 33 = .ok (.getfield 37, 3) := by decide +kernel
theorem dX4_add_36 : decode cX4_add 36 = .ok (.iload_n 2, 1) := by decide +kernel
theorem dX4_add_37 : decode cX4_add 37 = .ok (.iaload, 1) := by decide +kernel
theorem dX4_add_38 : decode cX4_add 38 = .ok (.iastore, 1) := by decide +kernel
theorem dX4_add_39 : decode cX4_add 39 = .ok (.aload_n 0, 1) := by decide +kernel
theorem dX4_add_40 : decode cX4_add 40 = .ok (.getfield 18, 3) := by decide +kernel
theorem dX4_add_43 : decode cX4_add 43 = .ok (.aload_n 0, 1) := by decide +kernel
theorem dX4_add_44 : decode cX4_add 44 = .ok (.getfield 24, 3) := by decide +kernel
theorem dX4_add_47 : decode cX4_add 47 = .ok (.aload_n 1, 1) := by decide +kernel
theorem dX4_add_48 : decode cX4_add 48 = .ok (.getfield 38, 3) := by decide +kernel
theorem dX4_add_51 : decode cX4_add 51 = .ok (.iload_n 2, 1) := by decide +kernel
theorem dX4_add_52 : decode cX4_add 52 = .ok (.iaload, 1) := by decide +kernel
theorem dX4_add_53 : decode cX4_add 53 = .ok (.iastore, 1) := by decide +kernel
theorem dX4_add_54 : decode cX4_add 54 = .ok (.aload_n 0, 1) := by decide +kernel
theorem dX4_add_55 : decode cX4_add 55 = .ok (.getfield 21, 3) := by decide +kernel
theorem dX4_add_58 : decode cX4_add 58 = .ok (.aload_n 0, 1) := by decide +kernel
theorem dX4_add_59 : decode cX4_add 59 = .ok (.getfield 24, 3) := by decide +kernel
theorem dX4_add_62 : decode cX4_add 62 = .ok (.aload_n 1, 1) := by decide +kernel
theorem dX4_add_63 : decode cX4_add 63 = .ok (.getfield 39, 3) := by decide +kernel
theorem dX4_add_66 : decode cX4_add 66 = .ok (.iload_n 2, 1) := by decide +kernel
theorem dX4_add_67 : decode cX4_add 67 = .ok (.iaload, 1) := by decide +kernel
theorem dX4_add_68 : decode cX4_add 68 = .ok (.iastore, 1) := by decide +kernel
theorem dX4_add_69 : decode cX4_add 69 = .ok (.aload_n 0, 1) := by decide +kernel
theorem dX4_add_70 : decode cX4_add 70 = .ok (.dup, 1) := by decide +kernel
theorem dX4_add_71 : decode cX4_add 71 = .ok (.getfield 24, 3) := by decide +kernel
theorem dX4_add_74 : decode cX4_add 74 = .ok (.iconst 1, 1) := by decide +kernel
theorem dX4_add_75 : decode cX4_add 75 = .ok (.iadd, 1) := by decide +kernel
theorem dX4_add_76 : decode cX4_add 76 = .ok (.putfield 24, 3) := by decide +kernel
theorem dX4_add_79 : decode cX4_add 79 = .ok (.return_, 1) := by decide +kernel
theorem dX4_greatestSupport_0 : decode cX4_greatestSupport 0 = .ok (.iconst 0, 1) := by decide +kernel
theorem dX4_greatestSupport_1 : decode cX4_greatestSupport 1 = .ok (.istore 4, 2) := by decide +kernel
theorem dX4_greatestSupport_3 : decode cX4_greatestSupport 3 = .ok (.iconst 0, 1) := by decide +kernel
theorem dX4_greatestSupport_4 : decode cX4_greatestSupport 4 = .ok (.istore 5, 2) := by decide +kernel
theorem dX4_greatestSupport_6 : decode cX4_greatestSupport 6 = .ok (.iload 5, 2) := by decide +kernel
theorem dX4_greatestSupport_8 : decode cX4_greatestSupport 8 = .ok (.aload_n 0, 1) := by decide +kernel
theorem dX4_greatestSupport_9 : decode cX4_greatestSupport 9 = .ok (.getfield 24, 3) := by decide +kernel
theorem dX4_greatestSupport_12 : decode cX4_greatestSupport 12 = .ok (.if_icmp .ge 75, 3) := by decide +kernel
theorem dX4_greatestSupport_15 : decode cX4_greatestSupport 15 = .ok (.aload_n 0, 1) := by decide +kernel
theorem dX4_greatestSupport_16 : decode cX4_greatestSupport 16 = .ok (.getfield 9, 3) := by decide +kernel
theorem dX4_greatestSupport_19 : decode cX4_greatestSupport 19 = .ok (.iload 5, 2) := by decide +kernel
theorem dX4_greatestSupport_21 : decode cX4_greatestSupport 21 = .ok (.iaload, 1) := by decide +kernel
theorem dX4_greatestSupport_22 : decode cX4_greatestSupport 22 = .ok (.iload_n 1, 1) := by decide +kernel
theorem dX4_greatestSupport_23 : decode cX4_greatestSupport 23 = .ok (.if_icmp .ne 29, 3) := by decide +kernel
theorem dX4_greatestSupport_26 : decode cX4_greatestSupport 26 = .ok (.aload_n 0, 1) := by decide +kernel
theorem dX4_greatestSupport_27 : decode cX4_greatestSupport 27 = .ok (.getfield 15, 3) := by decide +kernel
theorem dX4_greatestSupport_30 : decode cX4_greatestSupport 30 = .ok (.iload 5, 2) := by decide +kernel
theorem dX4_greatestSupport_32 : decode cX4_greatestSupport 32 = .ok (.iaload, 1) := by decide +kernel
theorem dX4_greatestSupport_33 : decode cX4_greatestSupport 33 = .ok (.iload_n 2, 1) := by decide +kernel
theorem dX4_greatestSupport_34 : decode cX4_greatestSupport 34 = .ok (.if_icmp .ne 18, 3) := by decide +kernel
theorem dX4_greatestSupport_37 : decode cX4_greatestSupport 37 = .ok (.aload_n 0, 1) := by decide +kernel
theorem dX4_greatestSupport_38 : decode cX4_greatestSupport 38 = .ok (.getfield 18, 3) := by decide +kernel
theorem dX4_greatestSupport_41 : decode cX4_greatestSupport 41 = .ok (.iload 5, 2) := by decide +kernel
theorem dX4_greatestSupport_43 : decode cX4_greatestSupport 43 = .ok (.iaload, 1) := by decide +kernel
theorem dX4_greatestSupport_44 : decode cX4_greatestSupport 44 = .ok (.iload_n 3, 1) := by decide +kernel
theorem dX4_greatestSupport_45 : decode cX4_greatestSupport 45 = .ok (.if_icmp .ne 7, 3) := by decide +kernel
theorem dX4_greatestSupport_48 : decode cX4_greatestSupport 48 = .ok (.iconst 1, 1) := by decide +kernel
theorem dX4_greatestSupport_49 : decode cX4_greatestSupport 49 = .ok (.goto 4, 3) := by decide +kernel
theorem dX4_greatestSupport_52 : decode cX4_greatestSupport 52 = .ok (.iconst 0, 1) := by decide +kernel
theorem dX4_greatestSupport_53 : decode cX4_greatestSupport 53 = .ok (.istore 6, 2) := by decide +kernel
theorem dX4_greatestSupport_55 : decode cX4_greatestSupport 55 = .ok (.iload 6, 2) := by decide +kernel
theorem dX4_greatestSupport_57 : decode cX4_greatestSupport 57 = .ok (.ifCond .eq 24, 3) := by decide +kernel
theorem dX4_greatestSupport_60 : decode cX4_greatestSupport 60 = .ok (.aload_n 0, 1) := by decide +kernel
theorem dX4_greatestSupport_61 : decode cX4_greatestSupport 61 = .ok (.getfield 21, 3) := by decide +kernel
theorem dX4_greatestSupport_64 : decode cX4_greatestSupport 64 = .ok (.iload 5, 2) := by decide +kernel
theorem dX4_greatestSupport_66 : decode cX4_greatestSupport 66 = .ok (.iaload, 1) := by decide +kernel
theorem dX4_greatestSupport_67 : decode cX4_greatestSupport 67 = .ok (.iload 4, 2) := by decide +kernel
theorem dX4_greatestSupport_69 : decode cX4_greatestSupport 69 = .ok (.if_icmp .le 12, 3) := by decide +kernel
theorem dX4_greatestSupport_72 : decode cX4_greatestSupport 72 = .ok (.aload_n 0, 1) := by decide +kernel
theorem dX4_greatestSupport_73 : decode cX4_greatestSupport 73 = .ok (.getfield 21, 3) := by decide +kernel
theorem dX4_greatestSupport_76 : decode cX4_greatestSupport 76 = .ok (.iload 5, 2) := by decide +kernel
theorem dX4_greatestSupport_78 : decode cX4_greatestSupport 78 = .ok (.iaload, 1) := by decide +kernel
theorem dX4_greatestSupport_79 : decode cX4_greatestSupport 79 = .ok (.istore 4, 2) := by decide +kernel
theorem dX4_greatestSupport_81 : decode cX4_greatestSupport 81 = .ok (.iinc 5 1, 3) := by decide +kernel
theorem dX4_greatestSupport_84 : decode cX4_greatestSupport 84 = .ok (.goto (-78), 3) := by decide +kernel
theorem dX4_greatestSupport_87 : decode cX4_greatestSupport 87 = .ok (.iload 4, 2) := by decide +kernel
theorem dX4_greatestSupport_89 : decode cX4_greatestSupport 89 = .ok (.ireturn, 1) := by decide +kernel
theorem dX5_init_0 : decode cX5_init 0 = .ok (.aload_n 0, 1) := by decide +kernel
theorem dX5_init_1 : decode cX5_init 1 = .ok (.invokespecial 3, 3) := by decide +kernel
theorem dX5_init_4 : decode cX5_init 4 = .ok (.aload_n 0, 1) := by decide +kernel
theorem dX5_init_5 : decode cX5_init 5 = .ok (.new 9, 3) := by decide +kernel
theorem dX5_init_8 : decode cX5_init 8 = .ok (.dup, 1) := by decide +kernel
theorem dX5_init_9 : decode cX5_init 9 = .ok (.invokespecial 11, 3) := by decide +kernel
theorem dX5_init_12 : decode cX5_init 12 = .ok (.putfield 12, 3) := by decide +kernel
theorem dX5_init_15 : decode cX5_init 15 = .ok (.aload_n 0, 1) := by decide +kernel
theorem dX5_init_16 : decode cX5_init 16 = .ok (.new 18, 3) := by decide +kernel
theorem dX5_init_19 : decode cX5_init 19 = .ok (.dup, 1) := by decide +kernel
theorem dX5_init_20 : decode cX5_init 20 = .ok (.invokespecial 20, 3) := by decide +kernel
theorem dX5_init_23 : decode cX5_init 23 = .ok (.putfield 21, 3) := by decide +kernel
theorem dX5_init_26 : decode cX5_init 26 = .ok (.aload_n 0, 1) := by decide +kernel
theorem dX5_init_27 : decode cX5_init 27 = .ok (.new 25, 3) := by decide +kernel
theorem dX5_init_30 : decode cX5_init 30 = .ok (.dup, 1) := by decide +kernel
theorem dX5_init_31 : decode cX5_init 31 = .ok (.invokespecial 27, 3) := by decide +kernel
theorem dX5_init_34 : decode cX5_init 34 = .ok (.putfield 28, 3) := by decide +kernel
theorem dX5_init_37 : decode cX5_init 37 = .ok (.aload_n 0, 1) := by decide +kernel
theorem dX5_init_38 : decode cX5_init 38 = .ok (.new 32, 3) := by decide +kernel
theorem dX5_init_41 : decode cX5_init 41 = .ok (.dup, 1) := by decide +kernel
theorem dX5_init_42 : decode cX5_init 42 = .ok (.invokespecial 34, 3) := by decide +kernel
theorem dX5_init_45 : decode cX5_init 45 = .ok (.putfield 35, 3) := by decide +kernel
theorem dX5_init_48 : decode cX5_init 48 = .ok (.aload_n 0, 1) := by decide +kernel
theorem dX5_init_49 : decode cX5_init 49 = .ok (.iconst 2, 1) := by decide +kernel
theorem dX5_init_50 : decode cX5_init 50 = .ok (.newarray .int, 2) := by decide +kernel
theorem dX5_init_52 : decode cX5_init 52 = .ok (.dup, 1) := by decide +kernel
theorem dX5_init_53 : decode cX5_init 53 = .ok (.iconst 0, 1) := by decide +kernel
theorem dX5_init_54 : decode cX5_init 54 = .ok (.iconst 5, 1) := by decide +kernel
theorem dX5_init_55 : decode cX5_init 55 = .ok (.iastore, 1) := by decide +kernel
theorem dX5_init_56 : decode cX5_init 56 = .ok (.dup, 1) := by decide +kernel
theorem dX5_init_57 : decode cX5_init 57 = .ok (.iconst 1, 1) := by decide +kernel
theorem dX5_init_58 : decode cX5_init 58 = .ok (.bipush 10, 2) := by decide +kernel
theorem dX5_init_60 : decode cX5_init 60 = .ok (.iastore, 1) := by decide +kernel
theorem dX5_init_61 : decode cX5_init 61 = .ok (.putfield 39, 3) := by decide +kernel
theorem dX5_init_64 : decode cX5_init 64 = .ok (.aload_n 0, 1) := by decide +kernel
theorem dX5_init_65 : decode cX5_init 65 = .ok (.bipush 12, 2) := by decide +kernel
theorem dX5_init_67 : decode cX5_init 67 = .ok (.newarray .int, 2) := by decide +kernel
theorem dX5_init_69 : decode cX5_init 69 = .ok (.putfield 43, 3) := by decide +kernel
theorem dX5_init_72 : decode cX5_init 72 = .ok (.return_, 1) := by decide +kernel
theorem dX5_copyFrom_0 : decode cX5_copyFrom 0 = .ok (.aload_n 0, 1) := by decide +kernel
theorem dX5_copyFrom_1 : decode cX5_copyFrom 1 = .ok (.getfield 12, 3) := by decide +kernel
theorem dX5_copyFrom_4 : decode cX5_copyFrom 4 = .ok (.aload_n 1, 1) := by decide +kernel
theorem dX5_copyFrom_5 : decode cX5_copyFrom 5 = .ok (.getfield 12, 3) := by decide +kernel
theorem dX5_copyFrom_8 : decode cX5_copyFrom 8 = .ok (.invokevirtual 46, 3) := by decide +kernel
theorem dX5_copyFrom_11 : decode cX5_copyFrom 11 = .ok (.aload_n 0, 1) := by decide +kernel
theorem dX5_copyFrom_12 : decode cX5_copyFrom 12 = .ok (.getfield 21, 3) := by decide +kernel
theorem dX5_copyFrom_15 : decode cX5_copyFrom 15 = .ok (.aload_n 1, 1) := by decide +kernel
theorem dX5_copyFrom_16 : decode cX5_copyFrom 16 = .ok (.getfield 21, 3) := by decide +kernel
theorem dX5_copyFrom_19 : decode cX5_copyFrom 19 = .ok (.invokevirtual 50, 3) := by decide +kernel
theorem dX5_copyFrom_22 : decode cX5_copyFrom 22 = .ok (.aload_n 0, 1) := by decide +kernel
theorem dX5_copyFrom_23 : decode cX5_copyFrom 23 = .ok (.getfield 28, 3) := by decide +kernel
theorem dX5_copyFrom_26 : decode cX5_copyFrom 26 = .ok (.aload_n 1, 1) := by decide +kernel
theorem dX5_copyFrom_27 : decode cX5_copyFrom 27 = .ok (.getfield 28, 3) := by decide +kernel
theorem dX5_copyFrom_30 : decode cX5_copyFrom 30 = .ok (.invokevirtual 53, 3) := by decide +kernel
theorem dX5_copyFrom_33 : decode cX5_copyFrom 33 = .ok (.aload_n 0, 1) := by decide +kernel
theorem dX5_copyFrom_34 : decode cX5_copyFrom 34 = .ok (.getfield 35, 3) := by decide +kernel
theorem dX5_copyFrom_37 : decode cX5_copyFrom 37 = .ok (.aload_n 1, 1) := by decide +kernel
theorem dX5_copyFrom_38 : decode cX5_copyFrom 38 = .ok (.getfield 35, 3) := by decide +kernel
theorem dX5_copyFrom_41 : decode cX5_copyFrom 41 = .ok (.invokevirtual 56, 3) := by decide +kernel
theorem dX5_copyFrom_44 : decode cX5_copyFrom 44 = .ok (.aload_n 0, 1) := by decide +kernel
theorem dX5_copyFrom_45 : decode cX5_copyFrom 45 = .ok (.getfield 39, 3) := by decide +kernel
theorem dX5_copyFrom_48 : decode cX5_copyFrom 48 = .ok (.iconst 0, 1) := by decide +kernel
theorem dX5_copyFrom_49 : decode cX5_copyFrom 49 = .ok (.aload_n 1, 1) := by decide +kernel
theorem dX5_copyFrom_50 : decode cX5_copyFrom 50 = .ok (.getfield 39, 3) := by decide +kernel
theorem dX5_copyFrom_53 : decode cX5_copyFrom 53 = .ok (.iconst 0, 1) := by decide +kernel
theorem dX5_copyFrom_54 : decode cX5_copyFrom 54 = .ok (.iaload, 1) := by decide +kernel
theorem dX5_copyFrom_55 : decode cX5_copyFrom 55 = .ok (.iastore, 1) := by decide +kernel
theorem dX5_copyFrom_56 : decode cX5_copyFrom 56 = .ok (.aload_n 0, 1) := by decide +kernel
theorem dX5_copyFrom_57 : decode cX5_copyFrom 57 = .ok (.getfield 39, 3) := by decide +kernel
theorem dX5_copyFrom_60 : decode cX5_copyFrom 60 = .ok (.iconst 1, 1) := by decide +kernel
theorem dX5_copyFrom_61 : decode cX5_copyFrom 61 = .ok (.aload_n 1, 1) := by decide +kernel
theorem dX5_copyFrom_62 : decode cX5_copyFrom 62 = .ok (.getfield 39, 3) := by decide +kernel
theorem dX5_copyFrom_65 : decode cX5_copyFrom 65 = .ok (.iconst 1, 1) := by decide +kernel
theorem dX5_copyFrom_66 : decode cX5_copyFrom 66 = .ok (.iaload, 1) := by decide +kernel
theorem dX5_copyFrom_67 : decode cX5_copyFrom 67 = .ok (.iastore, 1) := by decide +kernel
theorem dX5_copyFrom_68 : decode cX5_copyFrom 68 = .ok (.aload_n 0, 1) := by decide +kernel
theorem dX5_copyFrom_69 : decode cX5_copyFrom 69 = .ok (.aload_n 1, 1) := by decide +kernel
theorem dX5_copyFrom_70 : decode cX5_copyFrom 70 = .ok (.getfield 59, 3) := by decide +kernel
theorem dX5_copyFrom_73 : decode cX5_copyFrom 73 = .ok (.putfield 59, 3) := by decide +kernel
theorem dX5_copyFrom_76 : decode cX5_copyFrom 76 = .ok (.aload_n 0, 1) := by decide +kernel
theorem dX5_copyFrom_77 : decode cX5_copyFrom 77 = .ok (.aload_n 1, 1) := by decide +kernel
theorem dX5_copyFrom_78 : decode cX5_copyFrom 78 = .ok (.getfield 63, 3) := by decide +kernel
theorem dX5_copyFrom_81 : decode cX5_copyFrom 81 = .ok (.putfield 63, 3) := by decide +kernel
theorem dX5_copyFrom_84 : decode cX5_copyFrom 84 = .ok (.aload_n 0, 1) := by decide +kernel
theorem dX5_copyFrom_85 : decode cX5_copyFrom 85 = .ok (.aload_n 1, 1) := by decide +kernel
theorem dX5_copyFrom_86 : decode cX5_copyFrom 86 = .ok (.getfield 66, 3) := by decide +kernel
theorem dX5_copyFrom_89 : decode cX5_copyFrom 89 = .ok (.putfield 66, 3) := by decide +kernel
theorem dX5_copyFrom_92 : decode cX5_copyFrom 92 = .ok (.aload_n 0, 1) := by decide +kernel
theorem dX5_copyFrom_93 : decode cX5_copyFrom 93 = .ok (.aload_n 1, 1) := by decide +kernel
theorem dX5_copyFrom_94 : decode cX5_copyFrom 94 = .ok (.getfield 69, 3) := by decide +kernel
theorem dX5_copyFrom_97 : decode cX5_copyFrom 97 = .ok (.putfield 69, 3) := by decide +kernel
theorem dX5_copyFrom_100 : decode cX5_copyFrom 100 = .ok (.return_, 1) := by decide +kernel
theorem dX5_addDrone_0 : decode cX5_addDrone 0 = .ok (.iload_n 1, 1) := by decide +kernel
theorem dX5_addDrone_1 : decode cX5_addDrone 1 = .ok (.invokestatic 72, 3) := by decide +kernel
theorem dX5_addDrone_4 : decode cX5_addDrone 4 = .ok (.ifCond .ne 5, 3) := by decide +kernel
theorem dX5_addDrone_7 : decode cX5_addDrone 7 = .ok (.iconst (-1), 1) := by decide +kernel
theorem dX5_addDrone_8 : decode cX5_addDrone 8 = .ok (.ireturn, 1) := by decide +kernel
theorem dX5_addDrone_9 : decode cX5_addDrone 9 = .ok (.iload_n 2, 1) := by decide +kernel
theorem dX5_addDrone_10 : decode cX5_addDrone 10 = .ok (.iconst 1, 1) := by decide +kernel
theorem dX5_addDrone_11 : decode cX5_addDrone 11 = .ok (.if_icmp .lt 9, 3) := by decide +kernel
theorem dX5_addDrone_14 : decode cX5_addDrone 14 = .ok (.iload_n 2, 1) := by decide +kernel
theorem dX5_addDrone_15 : decode cX5_addDrone 15 = .ok (.bipush 9, 2) := by decide +kernel
theorem dX5_addDrone_17 : decode cX5_addDrone 17 = .ok (.if_icmp .le 6, 3) := by decide +kernel
theorem dX5_addDrone_20 : decode cX5_addDrone 20 = .ok (.bipush (-2), 2) := by decide +kernel
theorem dX5_addDrone_22 : decode cX5_addDrone 22 = .ok (.ireturn, 1) := by decide +kernel
theorem dX5_addDrone_23 : decode cX5_addDrone 23 = .ok (.aload_n 0, 1) := by decide +kernel
theorem dX5_addDrone_24 : decode cX5_addDrone 24 = .ok (.getfield 12, 3) := by decide +kernel
theorem dX5_addDrone_27 : decode cX5_addDrone 27 = .ok (.getfield 76, 3) := by decide +kernel
theorem dX5_addDrone_30 : decode cX5_addDrone 30 = .ok (.bipush 12, 2) := by decide +kernel
theorem dX5_addDrone_32 : decode cX5_addDrone 32 = .ok (.if_icmp .lt 6, 3) := by decide +kernel
theorem dX5_addDrone_35 : decode cX5_addDrone 35 = .ok (.bipush (-3), 2) := by decide +kernel
theorem dX5_addDrone_37 : decode cX5_addDrone 37 = .ok (.ireturn, 1) := by decide +kernel
theorem dX5_addDrone_38 : decode cX5_addDrone 38 = .ok (.aload_n 0, 1) := by decide +kernel
theorem dX5_addDrone_39 : decode cX5_addDrone 39 = .ok (.getfield 12, 3) := by decide +kernel
theorem dX5_addDrone_42 : decode cX5_addDrone 42 = .ok (.iload_n 1, 1) := by decide +kernel
theorem dX5_addDrone_43 : decode cX5_addDrone 43 = .ok (.iload_n 2, 1) := by decide +kernel
theorem dX5_addDrone_44 : decode cX5_addDrone 44 = .ok (.invokevirtual 79, 3) := by decide +kernel
theorem dX5_addDrone_47 : decode cX5_addDrone 47 = .ok (.ireturn, 1) := by decide +kernel
theorem dX5_moveDrone_0 : decode cX5_moveDrone 0 = .ok (.aload_n 0, 1) := by decide +kernel
theorem dX5_moveDrone_1 : decode cX5_moveDrone 1 = .ok (.getfield 12, 3) := by decide +kernel
theorem dX5_moveDrone_4 : decode cX5_moveDrone 4 = .ok (.iload_n 1, 1) := by decide +kernel
theorem dX5_moveDrone_5 : decode cX5_moveDrone 5 = .ok (.invokevirtual 83, 3) := by decide +kernel
theorem dX5_moveDrone_8 : decode cX5_moveDrone 8 = .ok (.ifCond .eq 10, 3) := by decide +kernel
theorem dX5_moveDrone_11 : decode cX5_moveDrone 11 = .ok (.iload_n 2, 1) := by decide +kernel
theorem dX5_moveDrone_12 : decode cX5_moveDrone 12 = .ok (.invokestatic 72, 3) := by decide +kernel
theorem dX5_moveDrone_15 : decode cX5_moveDrone 15 = .ok (.ifCond .ne 5, 3) := by decide +kernel
theorem dX5_moveDrone_18 : decode cX5_moveDrone 18 = .ok (.iconst (-1), 1) := by decide +kernel
theorem dX5_moveDrone_19 : decode cX5_moveDrone 19 = .ok (.ireturn, 1) := by decide +kernel
theorem dX5_moveDrone_20 : decode cX5_moveDrone 20 = .ok (.aload_n 0, 1) := by decide +kernel
theorem dX5_moveDrone_21 : decode cX5_moveDrone 21 = .ok (.getfield 12, 3) := by decide +kernel
theorem dX5_moveDrone_24 : decode cX5_moveDrone 24 = .ok (.getfield 86, 3) := by decide +kernel
theorem dX5_moveDrone_27 : decode cX5_moveDrone 27 = .ok (.iload_n 1, 1) := by decide +kernel
theorem dX5_moveDrone_28 : decode cX5_moveDrone 28 = .ok (.iaload, 1) := by decide +kernel
theorem dX5_moveDrone_29 : decode cX5_moveDrone 29 = .ok (.istore_n 3, 1) := by decide +kernel
theorem dX5_moveDrone_30 : decode cX5_moveDrone 30 = .ok (.iload_n 3, 1) := by decide +kernel
theorem dX5_moveDrone_31 : decode cX5_moveDrone 31 = .ok (.iload_n 2, 1) := by decide +kernel
theorem dX5_moveDrone_32 : decode cX5_moveDrone 32 = .ok (.if_icmp .ne 6, 3) := by decide +kernel
theorem dX5_moveDrone_35 : decode cX5_moveDrone 35 = .ok (.bipush (-5), 2) := by decide +kernel
theorem dX5_moveDrone_37 : decode cX5_moveDrone 37 = .ok (.ireturn, 1) := by decide +kernel
theorem dX5_moveDrone_38 : decode cX5_moveDrone 38 = .ok (.aload_n 0, 1) := by decide +kernel
theorem dX5_moveDrone_39 : decode cX5_moveDrone 39 = .ok (.getfield 12, 3) := by decide +kernel
theorem dX5_moveDrone_42 : decode cX5_moveDrone 42 = .ok (.getfield 86, 3) := by decide +kernel
theorem dX5_moveDrone_45 : decode cX5_moveDrone 45 = .ok (.iload_n 1, 1) := by decide +kernel
theorem dX5_moveDrone_46 : decode cX5_moveDrone 46 = .ok (.iload_n 2, 1) := by decide +kernel
theorem dX5_moveDrone_47 : decode cX5_moveDrone 47 = .ok (.iastore, 1) := by decide +kernel
theorem dX5_moveDrone_48 : decode cX5_moveDrone 48 = .ok (.iload_n 3, 1) := by decide +kernel
theorem dX5_moveDrone_49 : decode cX5_moveDrone 49 = .ok (.ireturn, 1) := by decide +kernel
theorem dX5_addPetition_0 : decode cX5_addPetition 0 = .ok (.aload_n 0, 1) := by decide +kernel
theorem dX5_addPetition_1 : decode cX5_addPetition 1 = .ok (.getfield 12, 3) := by decide +kernel
theorem dX5_addPetition_4 : decode cX5_addPetition 4 = .ok (.iload_n 1, 1) := by decide +kernel
theorem dX5_addPetition_5 : decode cX5_addPetition 5 = .ok (.invokevirtual 83, 3) := by decide +kernel
theorem dX5_addPetition_8 : decode cX5_addPetition 8 = .ok (.ifCond .eq 17, 3) := by decide +kernel
theorem dX5_addPetition_11 : decode cX5_addPetition 11 = .ok (.iload_n 2, 1) := by decide +kernel
theorem dX5_addPetition_12 : decode cX5_addPetition 12 = .ok (.invokestatic 89, 3) := by decide +kernel
theorem dX5_addPetition_15 : decode cX5_addPetition 15 = .ok (.ifCond .eq 10, 3) := by decide +kernel
theorem dX5_addPetition_18 : decode cX5_addPetition 18 = .ok (.iload_n 3, 1) := by decide +kernel
theorem dX5_addPetition_19 : decode cX5_addPetition 19 = .ok (.invokestatic 92, 3) := by decide +kernel
theorem dX5_addPetition_22 : decode cX5_addPetition 22 = .ok (.ifCond .ne 5, 3) := by decide +kernel
theorem dX5_addPetition_25 : decode cX5_addPetition 25 = .ok (.iconst (-1), 1) := by decide +kernel
theorem dX5_addPetition_26 : decode cX5_addPetition 26 = .ok (.ireturn, 1) := by decide +kernel
theorem dX5_addPetition_27 : decode cX5_addPetition 27 = .ok (.iload 4, 2) := by decide +kernel
theorem dX5_addPetition_29 : decode cX5_addPetition 29 = .ok (.ifCond .lt 9, 3) := by decide +kernel
theorem dX5_addPetition_32 : decode cX5_addPetition 32 = .ok (.iload 4, 2) := by decide +kernel
theorem dX5_addPetition_34 : decode cX5_addPetition 34 = .ok (.iconst 2, 1) := by decide +kernel
theorem dX5_addPetition_35 : decode cX5_addPetition 35 = .ok (.if_icmp .le 6, 3) := by decide +kernel
theorem dX5_addPetition_38 : decode cX5_addPetition 38 = .ok (.bipush (-2), 2) := by decide +kernel
theorem dX5_addPetition_40 : decode cX5_addPetition 40 = .ok (.ireturn, 1) := by decide +kernel
theorem dX5_addPetition_41 : decode cX5_addPetition 41 = .ok (.iload_n 2, 1) := by decide +kernel
theorem dX5_addPetition_42 : decode cX5_addPetition 42 = .ok (.bipush 6, 2) := by decide +kernel
theorem dX5_addPetition_44 : decode cX5_addPetition 44 = .ok (.if_icmp .eq 20, 3) := by decide +kernel
theorem dX5_addPetition_47 : decode cX5_addPetition 47 = .ok (.iload_n 2, 1) := by decide +kernel
theorem dX5_addPetition_48 : decode cX5_addPetition 48 = .ok (.aload_n 0, 1) := by decide +kernel
theorem dX5_addPetition_49 : decode cX5_addPetition 49 = .ok (.getfield 12, 3) := by decide +kernel
theorem dX5_addPetition_52 : decode cX5_addPetition 52 = .ok (.getfield 86, 3) := by decide +kernel
theorem dX5_addPetition_55 : decode cX5_addPetition 55 = .ok (.iload_n 1, 1) := by decide +kernel
theorem dX5_addPetition_56 : decode cX5_addPetition 56 = .ok (.iaload, 1) := by decide +kernel
theorem dX5_addPetition_57 : decode cX5_addPetition 57 = .ok (.if_icmp .eq 7, 3) := by decide +kernel
theorem dX5_addPetition_60 : decode cX5_addPetition 60 = .ok (.iconst 1, 1) := by decide +kernel
theorem dX5_addPetition_61 : decode cX5_addPetition 61 = .ok (.goto 4, 3) := by decide +kernel
theorem dX5_addPetition_64 : decode cX5_addPetition 64 = .ok (.iconst 0, 1) := by decide +kernel
theorem dX5_addPetition_65 : decode cX5_addPetition 65 = .ok (.istore 5, 2) := by decide +kernel
theorem dX5_addPetition_67 : decode cX5_addPetition 67 = .ok (.iload 5, 2) := by decide +kernel
theorem dX5_addPetition_69 : decode cX5_addPetition 69 = .ok (.ifCond .ne 28, 3) := by decide +kernel
theorem dX5_addPetition_72 : decode cX5_addPetition 72 = .ok (.aload_n 0, 1) := by decide +kernel
theorem dX5_addPetition_73 : decode cX5_addPetition 73 = .ok (.getfield 28, 3) := by decide +kernel
theorem dX5_addPetition_76 : decode cX5_addPetition 76 = .ok (.iload_n 1, 1) := by decide +kernel
theorem dX5_addPetition_77 : decode cX5_addPetition 77 = .ok (.invokevirtual 95, 3) := by decide +kernel
theorem dX5_addPetition_80 : decode cX5_addPetition 80 = .ok (.bipush (-5), 2) := by decide +kernel
theorem dX5_addPetition_82 : decode cX5_addPetition 82 = .ok (.if_icmp .ne 15, 3) := by decide +kernel
theorem dX5_addPetition_85 : decode cX5_addPetition 85 = .ok (.aload_n 0, 1) := by decide +kernel
theorem dX5_addPetition_86 : decode cX5_addPetition 86 = .ok (.getfield 28, 3) := by decide +kernel
theorem dX5_addPetition_89 : decode cX5_addPetition 89 = .ok (.getfield 99, 3) := by decide +kernel
theorem dX5_addPetition_92 : decode cX5_addPetition 92 = .ok (.bipush 12, 2) := by decide +kernel
theorem dX5_addPetition_94 : decode cX5_addPetition 94 = .ok (.if_icmp .lt 6, 3) := by decide +kernel
theorem dX5_addPetition_97 : decode cX5_addPetition 97 = .ok (.bipush (-4), 2) := by decide +kernel
theorem dX5_addPetition_99 : decode cX5_addPetition 99 = .ok (.ireturn, 1) := by decide +kernel
theorem dX5_addPetition_100 : decode cX5_addPetition 100 = .ok (.aload_n 0, 1) := by decide +kernel
theorem dX5_addPetition_101 : decode cX5_addPetition 101 = .ok (.getfield 12, 3) := by decide +kernel
theorem dX5_addPetition_104 : decode cX5_addPetition 104 = .ok (.getfield 100, 3) := by decide +kernel
theorem dX5_addPetition_107 : decode cX5_addPetition 107 = .ok (.iload_n 1, 1) := by decide +kernel
theorem dX5_addPetition_108 : decode cX5_addPetition 108 = .ok (.dup2, 1) := by decide +kernel
theorem dX5_addPetition_109 : decode cX5_addPetition 109 = .ok (.iaload, 1) := by decide +kernel
theorem dX5_addPetition_110 : decode cX5_addPetition 110 = .ok (.iconst 1, 1) := by decide +kernel
theorem dX5_addPetition_111 : decode cX5_addPetition 111 = .ok (.iadd, 1) := by decide +kernel
theorem dX5_addPetition_112 : decode cX5_addPetition 112 = .ok (.iastore, 1) := by decide +kernel
theorem dX5_addPetition_113 : decode cX5_addPetition 113 = .ok (.aload_n 0, 1) := by decide +kernel
theorem dX5_addPetition_114 : decode cX5_addPetition 114 = .ok (.getfield 28, 3) := by decide +kernel
theorem dX5_addPetition_117 : decode cX5_addPetition 117 = .ok (.iload_n 1, 1) := by decide +kernel
theorem dX5_addPetition_118 : decode cX5_addPetition 118 = .ok (.iload_n 2, 1) := by decide +kernel
theorem dX5_addPetition_119 : decode cX5_addPetition 119 = .ok (.iload_n 3, 1) := by decide +kernel
theorem dX5_addPetition_120 : decode cX5_addPetition 120 = .ok (.iload 4, 2) := by decide +kernel
theorem dX5_addPetition_122 : decode cX5_addPetition 122 = .ok (.aload_n 0, 1) := by decide +kernel
theorem dX5_addPetition_123 : decode cX5_addPetition 123 = .ok (.getfield 12, 3) := by decide +kernel
theorem dX5_addPetition_126 : decode cX5_addPetition 126 = .ok (.getfield 103, 3) := by decide +kernel
theorem dX5_addPetition_129 : decode cX5_addPetition 129 = .ok (.iload_n 1, 1) := by decide +kernel
theorem dX5_addPetition_130 : decode cX5_addPetition 130 = .ok (.iaload, 1) := by decide +kernel
theorem dX5_addPetition_131 : decode cX5_addPetition 131 = .ok (.invokevirtual 106, 3) := by decide +kernel
theorem dX5_addPetition_134 : decode cX5_addPetition 134 = .ok (.ireturn, 1) := by decide +kernel
theorem dX5_addSeconder_0 : decode cX5_addSeconder 0 = .ok (.aload_n 0, 1) := by decide +kernel
theorem dX5_addSeconder_1 : decode cX5_addSeconder 1 = .ok (.getfield 12, 3) := by decide +kernel
theorem dX5_addSeconder_4 : decode cX5_addSeconder 4 = .ok (.iload_n 1, 1) := by decide +kernel
theorem dX5_addSeconder_5 : decode cX5_addSeconder 5 = .ok (.invokevirtual 83, 3) := by decide +kernel
theorem dX5_addSeconder_8 : decode cX5_addSeconder 8 = .ok (.ifCond .eq 14, 3) := by decide +kernel
theorem dX5_addSeconder_11 : decode cX5_addSeconder 11 = .ok (.aload_n 0, 1) := by decide +kernel
theorem dX5_addSeconder_12 : decode cX5_addSeconder 12 = .ok (.getfield 28, 3) := by decide +kernel
theorem dX5_addSeconder_15 : decode cX5_addSeconder 15 = .ok (.iload_n 2, 1) := by decide +kernel
theorem dX5_addSeconder_16 : decode cX5_addSeconder 16 = .ok (.invokevirtual 109, 3) := by decide +kernel
theorem dX5_addSeconder_19 : decode cX5_addSeconder 19 = .ok (.ifCond .ne 5, 3) := by decide +kernel
theorem dX5_addSeconder_22 : decode cX5_addSeconder 22 = .ok (.iconst (-1), 1) := by decide +kernel
theorem dX5_addSeconder_23 : decode cX5_addSeconder 23 = .ok (.ireturn, 1) := by decide +kernel
theorem dX5_addSeconder_24 : decode cX5_addSeconder 24 = .ok (.aload_n 0, 1) := by decide +kernel
theorem dX5_addSeconder_25 : decode cX5_addSeconder 25 = .ok (.getfield 28, 3) := by decide +kernel
theorem dX5_addSeconder_28 : decode cX5_addSeconder 28 = .ok (.getfield 112, 3) := by decide +kernel
theorem dX5_addSeconder_31 : decode cX5_addSeconder 31 = .ok (.iload_n 2, 1) := by decide +kernel
theorem dX5_addSeconder_32 : decode cX5_addSeconder 32 = .ok (.iaload, 1) := by decide +kernel
theorem dX5_addSeconder_33 : decode cX5_addSeconder 33 = .ok (.iload_n 1, 1) := by decide +kernel
theorem dX5_addSeconder_34 : decode cX5_addSeconder 34 = .ok (.if_icmp .ne 6, 3) := by decide +kernel
theorem dX5_addSeconder_37 : decode cX5_addSeconder 37 = .ok (.bipush (-4), 2) := by decide +kernel
theorem dX5_addSeconder_39 : decode cX5_addSeconder 39 = .ok (.ireturn, 1) := by decide +kernel
theorem dX5_addSeconder_40 : decode cX5_addSeconder 40 = .ok (.iconst 1, 1) := by decide +kernel
theorem dX5_addSeconder_41 : decode cX5_addSeconder 41 = .ok (.iload_n 1, 1) := by decide +kernel
theorem dX5_addSeconder_42 : decode cX5_addSeconder 42 = .ok (.ishl, 1) := by decide +kernel
theorem dX5_addSeconder_43 : decode cX5_addSeconder 43 = .ok (.istore_n 3, 1) := by decide +kernel
theorem dX5_addSeconder_44 : decode cX5_addSeconder 44 = .ok (.aload_n 0, 1) := by decide +kernel
theorem dX5_addSeconder_45 : decode cX5_addSeconder 45 = .ok (.getfield 28, 3) := by decide +kernel
theorem dX5_addSeconder_48 : decode cX5_addSeconder 48 = .ok (.getfield 115, 3) := by decide +kernel
theorem dX5_addSeconder_51 : decode cX5_addSeconder 51 = .ok (.iload_n 2, 1) := by decide +kernel
theorem dX5_addSeconder_52 : decode cX5_addSeconder 52 = .ok (.iaload, 1) := by decide +kernel
theorem dX5_addSeconder_53 : decode cX5_addSeconder 53 = .ok (.iload_n 3, 1) := by decide +kernel
theorem dX5_addSeconder_54 : decode cX5_addSeconder 54 = .ok (.iand, 1) := by decide +kernel
theorem dX5_addSeconder_55 : decode cX5_addSeconder 55 = .ok (.ifCond .eq 6, 3) := by decide +kernel
theorem dX5_addSeconder_58 : decode cX5_addSeconder 58 = .ok (.bipush (-5), 2) := by decide +kernel
theorem dX5_addSeconder_60 : decode cX5_addSeconder 60 = .ok (.ireturn, 1) := by decide +kernel
theorem dX5_addSeconder_61 : decode cX5_addSeconder 61 = .ok (.aload_n 0, 1) := by decide +kernel
theorem dX5_addSeconder_62 : decode cX5_addSeconder 62 = .ok (.getfield 28, 3) := by decide +kernel
theorem dX5_addSeconder_65 : decode cX5_addSeconder 65 = .ok (.getfield 115, 3) := by decide +kernel
theorem dX5_addSeconder_68 : decode cX5_addSeconder 68 = .ok (.iload_n 2, 1) := by decide +kernel
theorem dX5_addSeconder_69 : decode cX5_addSeconder 69 = .ok (.dup2, 1) := by decide +kernel
theorem dX5_addSeconder_70 : decode cX5_addSeconder 70 = .ok (.iaload, 1) := by decide +kernel
theorem dX5_addSeconder_71 : decode cX5_addSeconder 71 = .ok (.iload_n 3, 1) := by decide +kernel
theorem dX5_addSeconder_72 : decode cX5_addSeconder 72 = .ok (.ior, 1) := by decide +kernel
theorem dX5_addSeconder_73 : decode cX5_addSeconder 73 = .ok (.iastore, 1) := by decide +kernel
theorem dX5_addSeconder_74 : decode cX5_addSeconder 74 = .ok (.aload_n 0, 1) := by decide +kernel
theorem dX5_addSeconder_75 : decode cX5_addSeconder 75 = .ok (.getfield 28, 3) := by decide +kernel
theorem dX5_addSeconder_78 : decode cX5_addSeconder 78 = .ok (.getfield 118, 3) := by decide +kernel
theorem dX5_addSeconder_81 : decode cX5_addSeconder 81 = .ok (.iload_n 2, 1) := by decide +kernel
theorem dX5_addSeconder_82 : decode cX5_addSeconder 82 = .ok (.dup2, 1) := by decide +kernel
theorem dX5_addSeconder_83 : decode cX5_addSeconder 83 = .ok (.iaload, 1) := by decide +kernel
theorem dX5_addSeconder_84 : decode cX5_addSeconder 84 = .ok (.aload_n 0, 1) := by decide +kernel
theorem dX5_addSeconder_85 : decode cX5_addSeconder 85 = .ok (.getfield 12, 3) := by decide +kernel
theorem dX5_addSeconder_88 : decode cX5_addSeconder 88 = .ok (.getfield 103, 3) := by decide +kernel
theorem dX5_addSeconder_91 : decode cX5_addSeconder 91 = .ok (.iload_n 1, 1) := by decide +kernel
theorem dX5_addSeconder_92 : decode cX5_addSeconder 92 = .ok (.iaload, 1) := by decide +kernel
theorem dX5_addSeconder_93 : decode cX5_addSeconder 93 = .ok (.iadd, 1) := by decide +kernel
theorem dX5_addSeconder_94 : decode cX5_addSeconder 94 = .ok (.iastore, 1) := by decide +kernel
theorem dX5_addSeconder_95 : decode cX5_addSeconder 95 = .ok (.aload_n 0, 1) := by decide +kernel
theorem dX5_addSeconder_96 : decode cX5_addSeconder 96 = .ok (.getfield 28, 3) := by decide +kernel
theorem dX5_addSeconder_99 : decode cX5_addSeconder 99 = .ok (.getfield 118, 3) := by decide +kernel
theorem dX5_addSeconder_102 : decode cX5_addSeconder 102 = .ok (.iload_n 2, 1) := by decide +kernel
theorem dX5_addSeconder_103 : decode cX5_addSeconder 103 = .ok (.iaload, 1) := by decide +kernel
theorem dX5_addSeconder_104 : decode cX5_addSeconder 104 = .ok (.ireturn, 1) := by decide +kernel
theorem dX5_endDays_0 : decode cX5_endDays 0 = .ok (.iload_n 1, 1) := by decide +kernel
theorem dX5_endDays_1 : decode cX5_endDays 1 = .ok (.iconst 1, 1) := by decide +kernel
theorem dX5_endDays_2 : decode cX5_endDays 2 = .ok (.if_icmp .lt 9, 3) := by decide +kernel
theorem dX5_endDays_5 : decode cX5_endDays 5 = .ok (.iload_n 1, 1) := by decide +kernel
theorem dX5_endDays_6 : decode cX5_endDays 6 = .ok (.bipush 99, 2) := by decide +kernel
theorem dX5_endDays_8 : decode cX5_endDays 8 = .ok (.if_icmp .le 6, 3) := by decide +kernel
theorem dX5_endDays_11 : decode cX5_endDays 11 = .ok (.bipush (-2), 2) := by decide +kernel
theorem dX5_endDays_13 : decode cX5_endDays 13 = .ok (.ireturn, 1) := by decide +kernel
theorem dX5_endDays_14 : decode cX5_endDays 14 = .ok (.aload_n 0, 1) := by decide +kernel
theorem dX5_endDays_15 : decode cX5_endDays 15 = .ok (.getfield 59, 3) := by decide +kernel
theorem dX5_endDays_18 : decode cX5_endDays 18 = .ok (.iload_n 1, 1) := by decide +kernel
theorem dX5_endDays_19 : decode cX5_endDays 19 = .ok (.iadd, 1) := by decide +kernel
theorem dX5_endDays_20 : decode cX5_endDays 20 = .ok (.ldc 121, 2) := by decide +kernel
theorem dX5_endDays_22 : decode cX5_endDays 22 = .ok (.if_icmp .le 6, 3) := by decide +kernel
theorem dX5_endDays_25 : decode cX5_endDays 25 = .ok (.bipush (-3), 2) := by decide +kernel
theorem dX5_endDays_27 : decode cX5_endDays 27 = .ok (.ireturn, 1) := by decide +kernel
theorem dX5_endDays_28 : decode cX5_endDays 28 = .ok (.iconst 0, 1) := by decide +kernel
theorem dX5_endDays_29 : decode cX5_endDays 29 = .ok (.istore_n 2, 1) := by decide +kernel
theorem dX5_endDays_30 : decode cX5_endDays 30 = .ok (.iconst 0, 1) := by decide +kernel
theorem dX5_endDays_31 : decode cX5_endDays 31 = .ok (.istore_n 3, 1) := by decide +kernel
theorem dX5_endDays_32 : decode cX5_endDays 32 = .ok (.iload_n 3, 1) := by decide +kernel
theorem dX5_endDays_33 : decode cX5_endDays 33 = .ok (.iload_n 1, 1) := by decide +kernel
theorem dX5_endDays_34 : decode cX5_endDays 34 = .ok (.if_icmp .ge 49, 3) := by decide +kernel
theorem dX5_endDays_37 : decode cX5_endDays 37 = .ok (.aload_n 0, 1) := by decide +kernel
theorem dX5_endDays_38 : decode cX5_endDays 38 = .ok (.dup, 1) := by decide +kernel
theorem dX5_endDays_39 : decode cX5_endDays 39 = .ok (.getfield 59, 3) := by decide +kernel
theorem dX5_endDays_42 : decode cX5_endDays 42 = .ok (.iconst 1, 1) := by decide +kernel
theorem dX5_endDays_43 : decode cX5_endDays 43 = .ok (.iadd, 1) := by decide +kernel
theorem dX5_endDays_44 : decode cX5_endDays 44 = .ok (.putfield 59, 3) := by decide +kernel
theorem dX5_endDays_47 : decode cX5_endDays 47 = .ok (.aload_n 0, 1) := by decide +kernel
theorem dX5_endDays_48 : decode cX5_endDays 48 = .ok (.dup, 1) := by decide +kernel
theorem dX5_endDays_49 : decode cX5_endDays 49 = .ok (.getfield 66, 3) := by decide +kernel
theorem dX5_endDays_52 : decode cX5_endDays 52 = .ok (.iconst 1, 1) := by decide +kernel
theorem dX5_endDays_53 : decode cX5_endDays 53 = .ok (.iadd, 1) := by decide +kernel
theorem dX5_endDays_54 : decode cX5_endDays 54 = .ok (.putfield 66, 3) := by decide +kernel
theorem dX5_endDays_57 : decode cX5_endDays 57 = .ok (.aload_n 0, 1) := by decide +kernel
theorem dX5_endDays_58 : decode cX5_endDays 58 = .ok (.getfield 66, 3) := by decide +kernel
theorem dX5_endDays_61 : decode cX5_endDays 61 = .ok (.aload_n 0, 1) := by decide +kernel
theorem dX5_endDays_62 : decode cX5_endDays 62 = .ok (.getfield 39, 3) := by decide +kernel
theorem dX5_endDays_65 : decode cX5_endDays 65 = .ok (.iconst 1, 1) := by decide +kernel
theorem dX5_endDays_66 : decode cX5_endDays 66 = .ok (.iaload, 1) := by decide +kernel
theorem dX5_endDays_67 : decode cX5_endDays 67 = .ok (.if_icmp .lt 10, 3) := by decide +kernel
theorem dX5_endDays_70 : decode cX5_endDays 70 = .ok (.iload_n 2, 1) := by decide +kernel
theorem dX5_endDays_71 : decode cX5_endDays 71 = .ok (.aload_n 0, 1) := by decide +kernel
theorem dX5_endDays_72 : decode cX5_endDays 72 = .ok (.invokevirtual 122, 3) := by decide +kernel
theorem dX5_endDays_75 : decode cX5_endDays 75 = .ok (.iadd, 1) := by decide +kernel
theorem dX5_endDays_76 : decode cX5_endDays 76 = .ok (.istore_n 2, 1) := by decide +kernel
theorem dX5_endDays_77 : decode cX5_endDays 77 = .ok (.iinc 3 1, 3) := by decide +kernel
theorem dX5_endDays_80 : decode cX5_endDays 80 = .ok (.goto (-48), 3) := by decide +kernel
theorem dX5_endDays_83 : decode cX5_endDays 83 = .ok (.iload_n 2, 1) := by decide +kernel
theorem dX5_endDays_84 : decode cX5_endDays 84 = .ok (.ireturn, 1) := by decide +kernel
theorem dX5_changeSetting_0 : decode cX5_changeSetting 0 = .ok (.iload_n 1, 1) := by decide +kernel
theorem dX5_changeSetting_1 : decode cX5_changeSetting 1 = .ok (.ifCond .eq 10, 3) := by decide +kernel
theorem dX5_changeSetting_4 : decode cX5_changeSetting 4 = .ok (.iload_n 1, 1) := by decide +kernel
theorem dX5_changeSetting_5 : decode cX5_changeSetting 5 = .ok (.iconst 1, 1) := by decide +kernel
theorem dX5_changeSetting_6 : decode cX5_changeSetting 6 = .ok (.if_icmp .eq 5, 3) := by decide +kernel
theorem dX5_changeSetting_9 : decode cX5_changeSetting 9 = .ok (.iconst (-1), 1) := by decide +kernel
theorem dX5_changeSetting_10 : decode cX5_changeSetting 10 = .ok (.ireturn, 1) := by decide +kernel
theorem dX5_changeSetting_11 : decode cX5_changeSetting 11 = .ok (.iload_n 1, 1) := by decide +kernel
theorem dX5_changeSetting_12 : decode cX5_changeSetting 12 = .ok (.ifCond .ne 7, 3) := by decide +kernel
theorem dX5_changeSetting_15 : decode cX5_changeSetting 15 = .ok (.iconst 0, 1) := by decide +kernel
theorem dX5_changeSetting_16 : decode cX5_changeSetting 16 = .ok (.goto 4, 3) := by decide +kernel
theorem dX5_changeSetting_19 : decode cX5_changeSetting 19 = .ok (.iconst 1, 1) := by decide +kernel
theorem dX5_changeSetting_20 : decode cX5_changeSetting 20 = .ok (.istore_n 3, 1) := by decide +kernel
theorem dX5_changeSetting_21 : decode cX5_changeSetting 21 = .ok (.iload_n 2, 1) := by decide +kernel
theorem dX5_changeSetting_22 : decode cX5_changeSetting 22 = .ok (.iload_n 3, 1) := by decide +kernel
theorem dX5_changeSetting_23 : decode cX5_changeSetting 23 = .ok (.if_icmp .lt 9, 3) := by decide +kernel
theorem dX5_changeSetting_26 : decode cX5_changeSetting 26 = .ok (.iload_n 2, 1) := by decide +kernel
theorem dX5_changeSetting_27 : decode cX5_changeSetting 27 = .ok (.bipush 60, 2) := by decide +kernel
theorem dX5_changeSetting_29 : decode cX5_changeSetting 29 = .ok (.if_icmp .le 6, 3) := by decide +kernel
theorem dX5_changeSetting_32 : decode cX5_changeSetting 32 = .ok (.bipush (-2), 2) := by decide +kernel
theorem dX5_changeSetting_34 : decode cX5_changeSetting 34 = .ok (.ireturn, 1) := by decide +kernel
theorem dX5_changeSetting_35 : decode cX5_changeSetting 35 = .ok (.aload_n 0, 1) := by decide +kernel
theorem dX5_changeSetting_36 : decode cX5_changeSetting 36 = .ok (.getfield 39, 3) := by decide +kernel
theorem dX5_changeSetting_39 : decode cX5_changeSetting 39 = .ok (.iload_n 1, 1) := by decide +kernel
theorem dX5_changeSetting_40 : decode cX5_changeSetting 40 = .ok (.iaload, 1) := by decide +kernel
theorem dX5_changeSetting_41 : decode cX5_changeSetting 41 = .ok (.istore 4, 2) := by decide +kernel
theorem dX5_changeSetting_43 : decode cX5_changeSetting 43 = .ok (.iload 4, 2) := by decide +kernel
theorem dX5_changeSetting_45 : decode cX5_changeSetting 45 = .ok (.iload_n 2, 1) := by decide +kernel
theorem dX5_changeSetting_46 : decode cX5_changeSetting 46 = .ok (.if_icmp .ne 6, 3) := by decide +kernel
theorem dX5_changeSetting_49 : decode cX5_changeSetting 49 = .ok (.bipush (-5), 2) := by decide +kernel
theorem dX5_changeSetting_51 : decode cX5_changeSetting 51 = .ok (.ireturn, 1) := by decide +kernel
theorem dX5_changeSetting_52 : decode cX5_changeSetting 52 = .ok (.aload_n 0, 1) := by decide +kernel
theorem dX5_changeSetting_53 : decode cX5_changeSetting 53 = .ok (.getfield 39, 3) := by decide +kernel
theorem dX5_changeSetting_56 : decode cX5_changeSetting 56 = .ok (.iload_n 1, 1) := by decide +kernel
theorem dX5_changeSetting_57 : decode cX5_changeSetting 57 = .ok (.iload_n 2, 1) := by decide +kernel
theorem dX5_changeSetting_58 : decode cX5_changeSetting 58 = .ok (.iastore, 1) := by decide +kernel
theorem dX5_changeSetting_59 : decode cX5_changeSetting 59 = .ok (.iload 4, 2) := by decide +kernel
theorem dX5_changeSetting_61 : decode cX5_changeSetting 61 = .ok (.ireturn, 1) := by decide +kernel
theorem dX5_endSeason_0 : decode cX5_endSeason 0 = .ok (.aload_n 0, 1) := by decide +kernel
theorem dX5_endSeason_1 : decode cX5_endSeason 1 = .ok (.invokevirtual 126, 3) := by decide +kernel
theorem dX5_endSeason_4 : decode cX5_endSeason 4 = .ok (.istore_n 1, 1) := by decide +kernel
theorem dX5_endSeason_5 : decode cX5_endSeason 5 = .ok (.aload_n 0, 1) := by decide +kernel
theorem dX5_endSeason_6 : decode cX5_endSeason 6 = .ok (.getfield 35, 3) := by decide +kernel
theorem dX5_endSeason_9 : decode cX5_endSeason 9 = .ok (.iconst 0, 1) := by decide +kernel
theorem dX5_endSeason_10 : decode cX5_endSeason 10 = .ok (.putfield 129, 3) := by decide +kernel
theorem dX5_endSeason_13 : decode cX5_endSeason 13 = .ok (.iconst 0, 1) := by decide +kernel
theorem dX5_endSeason_14 : decode cX5_endSeason 14 = .ok (.istore_n 2, 1) := by decide +kernel
theorem dX5_endSeason_15 : decode cX5_endSeason 15 = .ok (.iload_n 2, 1) := by decide +kernel
theorem dX5_endSeason_16 : decode cX5_endSeason 16 = .ok (.aload_n 0, 1) := by decide +kernel
theorem dX5_endSeason_17 : decode cX5_endSeason 17 = .ok (.getfield 28, 3) := by decide +kernel
theorem dX5_endSeason_20 : decode cX5_endSeason 20 = .ok (.getfield 99, 3) := by decide +kernel
theorem dX5_endSeason_23 : decode cX5_endSeason 23 = .ok (.if_icmp .ge 69, 3) := by decide +kernel
theorem dX5_endSeason_26 : decode cX5_endSeason 26 = .ok (.aload_n 0, 1) := by decide +kernel
theorem dX5_endSeason_27 : decode cX5_endSeason 27 = .ok (.getfield 28, 3) := by decide +kernel
theorem dX5_endSeason_30 : decode cX5_endSeason 30 = .ok (.getfield 112, 3) := by decide +kernel
theorem dX5_endSeason_33 : decode cX5_endSeason 33 = .ok (.iload_n 2, 1) := by decide +kernel
theorem dX5_endSeason_34 : decode cX5_endSeason 34 = .ok (.iaload, 1) := by decide +kernel
theorem dX5_endSeason_35 : decode cX5_endSeason 35 = .ok (.istore_n 3, 1) := by decide +kernel
theorem dX5_endSeason_36 : decode cX5_endSeason 36 = .ok (.aload_n 0, 1) := by decide +kernel
theorem dX5_endSeason_37 : decode cX5_endSeason 37 = .ok (.getfield 43, 3) := by decide +kernel
theorem dX5_endSeason_40 : decode cX5_endSeason 40 = .ok (.iload_n 2, 1) := by decide +kernel
theorem dX5_endSeason_41 : decode cX5_endSeason 41 = .ok (.iaload, 1) := by decide +kernel
theorem dX5_endSeason_42 : decode cX5_endSeason 42 = .ok (.ifCond .ne 19, 3) := by decide +kernel
theorem dX5_endSeason_45 : decode cX5_endSeason 45 = .ok (.aload_n 0, 1) := by decide +kernel
theorem dX5_endSeason_46 : decode cX5_endSeason 46 = .ok (.getfield 12, 3) := by decide +kernel
theorem dX5_endSeason_49 : decode cX5_endSeason 49 = .ok (.getfield 130, 3) := by decide +kernel
theorem dX5_endSeason_52 : decode cX5_endSeason 52 = .ok (.iload_n 3, 1) := by decide +kernel
theorem dX5_endSeason_53 : decode cX5_endSeason 53 = .ok (.dup2, 1) := by decide +kernel
theorem dX5_endSeason_54 : decode cX5_endSeason 54 = .ok (.iaload, 1) := by decide +kernel
theorem dX5_endSeason_55 : decode cX5_endSeason 55 = .ok (.iconst 1, 1) := by decide +kernel
theorem dX5_endSeason_56 : decode cX5_endSeason 56 = .ok (.iadd, 1) := by decide +kernel
theorem dX5_endSeason_57 : decode cX5_endSeason 57 = .ok (.iastore, 1) := by decide +kernel
theorem dX5_endSeason_58 : decode cX5_endSeason 58 = .ok (.goto 28, 3) := by decide +kernel
theorem dX5_endSeason_61 : decode cX5_endSeason 61 = .ok (.aload_n 0, 1) := by decide +kernel
theorem dX5_endSeason_62 : decode cX5_endSeason 62 = .ok (.getfield 12, 3) := by decide +kernel
theorem dX5_endSeason_65 : decode cX5_endSeason 65 = .ok (.getfield 133, 3) := by decide +kernel
theorem dX5_endSeason_68 : decode cX5_endSeason 68 = .ok (.iload_n 3, 1) := by decide +kernel
theorem dX5_endSeason_69 : decode cX5_endSeason 69 = .ok (.dup2, 1) := by decide +kernel
theorem dX5_endSeason_70 : decode cX5_endSeason 70 = .ok (.iaload, 1) := by decide +kernel
theorem dX5_endSeason_71 : decode cX5_endSeason 71 = .ok (.iconst 1, 1) := by decide +kernel
theorem dX5_endSeason_72 : decode cX5_endSeason 72 = .ok (.iadd, 1) := by decide +kernel
theorem dX5_endSeason_73 : decode cX5_endSeason 73 = .ok (.iastore, 1) := by decide +kernel
theorem dX5_endSeason_74 : decode cX5_endSeason 74 = .ok (.aload_n 0, 1) := by decide +kernel
theorem dX5_endSeason_75 : decode cX5_endSeason 75 = .ok (.getfield 35, 3) := by decide +kernel
theorem dX5_endSeason_78 : decode cX5_endSeason 78 = .ok (.aload_n 0, 1) := by decide +kernel
theorem dX5_endSeason_79 : decode cX5_endSeason 79 = .ok (.getfield 28, 3) := by decide +kernel
theorem dX5_endSeason_82 : decode cX5_endSeason 82 = .ok (.iload_n 2, 1) := by decide +kernel
theorem dX5_endSeason_83 : decode cX5_endSeason 83 = .ok (.invokevirtual 136, 3) := by decide +kernel
theorem dX5_endSeason_86 : decode cX5_endSeason 86 = .ok (.iinc 2 1, 3) := by decide +kernel
theorem dX5_endSeason_89 : decode cX5_endSeason 89 = .ok (.goto (-74), 3) := by decide +kernel
theorem dX5_endSeason_92 : decode cX5_endSeason 92 = .ok (.aload_n 0, 1) := by decide +kernel
theorem dX5_endSeason_93 : decode cX5_endSeason 93 = .ok (.getfield 28, 3) := by decide +kernel
theorem dX5_endSeason_96 : decode cX5_endSeason 96 = .ok (.iconst 0, 1) := by decide +kernel
theorem dX5_endSeason_97 : decode cX5_endSeason 97 = .ok (.putfield 99, 3) := by decide +kernel
theorem dX5_endSeason_100 : decode cX5_endSeason 100 = .ok (.aload_n 0, 1) := by decide +kernel
theorem dX5_endSeason_101 : decode cX5_endSeason 101 = .ok (.dup, 1) := by decide +kernel
theorem dX5_endSeason_102 : decode cX5_endSeason 102 = .ok (.getfield 63, 3) := by decide +kernel
theorem dX5_endSeason_105 : decode cX5_endSeason 105 = .ok (.iconst 1, 1) := by decide +kernel
theorem dX5_endSeason_106 : decode cX5_endSeason 106 = .ok (.iadd, 1) := by decide +kernel
theorem dX5_endSeason_107 : decode cX5_endSeason 107 = .ok (.putfield 63, 3) := by decide +kernel
theorem dX5_endSeason_110 : decode cX5_endSeason 110 = .ok (.aload_n 0, 1) := by decide +kernel
theorem dX5_endSeason_111 : decode cX5_endSeason 111 = .ok (.iconst 0, 1) := by decide +kernel
theorem dX5_endSeason_112 : decode cX5_endSeason 112 = .ok (.putfield 66, 3) := by decide +kernel
theorem dX5_endSeason_115 : decode cX5_endSeason 115 = .ok (.iload_n 1, 1) := by decide +kernel
theorem dX5_endSeason_116 : decode cX5_endSeason 116 = .ok (.ireturn, 1) := by decide +kernel
theorem dX5_hearPetitions_0 : decode cX5_hearPetitions 0 = .ok (.iconst 0, 1) := by decide +kernel
theorem dX5_hearPetitions_1 : decode cX5_hearPetitions 1 = .ok (.istore_n 1, 1) := by decide +kernel
theorem dX5_hearPetitions_2 : decode cX5_hearPetitions 2 = .ok (.iconst 0, 1) := by decide +kernel
theorem dX5_hearPetitions_3 : decode cX5_hearPetitions 3 = .ok (.istore_n 2, 1) := by decide +kernel
theorem dX5_hearPetitions_4 : decode cX5_hearPetitions 4 = .ok (.iload_n 2, 1) := by decide +kernel
theorem dX5_hearPetitions_5 : decode cX5_hearPetitions 5 = .ok (.aload_n 0, 1) := by decide +kernel
theorem dX5_hearPetitions_6 : decode cX5_hearPetitions 6 = .ok (.getfield 28, 3) := by decide +kernel
theorem dX5_hearPetitions_9 : decode cX5_hearPetitions 9 = .ok (.getfield 99, 3) := by decide +kernel
theorem dX5_hearPetitions_12 : decode cX5_hearPetitions 12 = .ok (.if_icmp .ge 61, 3) := by decide +kernel
theorem dX5_hearPetitions_15 : decode cX5_hearPetitions 15 = .ok (.aload_n 0, 1) := by decide +kernel
theorem dX5_hearPetitions_16 : decode cX5_hearPetitions 16 = .ok (.getfield 28, 3) := by decide +kernel
theorem dX5_hearPetitions_19 : decode cX5_hearPetitions 19 = .ok (.iload_n 2, 1) := by decide +kernel
theorem dX5_hearPetitions_20 : decode cX5_hearPetitions 20 = .ok (.invokevirtual 139, 3) := by decide +kernel
theorem dX5_hearPetitions_23 : decode cX5_hearPetitions 23 = .ok (.istore_n 3, 1) := by decide +kernel
theorem dX5_hearPetitions_24 : decode cX5_hearPetitions 24 = .ok (.iload_n 3, 1) := by decide +kernel
theorem dX5_hearPetitions_25 : decode cX5_hearPetitions 25 = .ok (.bipush (-5), 2) := by decide +kernel
theorem dX5_hearPetitions_27 : decode cX5_hearPetitions 27 = .ok (.if_icmp .eq 40, 3) := by decide +kernel
theorem dX5_hearPetitions_30 : decode cX5_hearPetitions 30 = .ok (.aload_n 0, 1) := by decide +kernel
theorem dX5_hearPetitions_31 : decode cX5_hearPetitions 31 = .ok (.iload_n 3, 1) := by decide +kernel
theorem dX5_hearPetitions_32 : decode cX5_hearPetitions 32 = .ok (.aload_n 0, 1) := by decide +kernel
theorem dX5_hearPetitions_33 : decode cX5_hearPetitions 33 = .ok (.getfield 28, 3) := by decide +kernel
theorem dX5_hearPetitions_36 : decode cX5_hearPetitions 36 = .ok (.getfield 118, 3) := by decide +kernel
theorem dX5_hearPetitions_39 : decode cX5_hearPetitions 39 = .ok (.iload_n 3, 1) := by decide +kernel
theorem dX5_hearPetitions_40 : decode cX5_hearPetitions 40 = .ok (.iaload, 1) := by decide +kernel
theorem dX5_hearPetitions_41 : decode cX5_hearPetitions 41 = .ok (.invokevirtual 142, 3) := by decide +kernel
theorem dX5_hearPetitions_44 : decode cX5_hearPetitions 44 = .ok (.istore 4, 2) := by decide +kernel
theorem dX5_hearPetitions_46 : decode cX5_hearPetitions 46 = .ok (.aload_n 0, 1) := by decide +kernel
theorem dX5_hearPetitions_47 : decode cX5_hearPetitions 47 = .ok (.getfield 43, 3) := by decide +kernel
theorem dX5_hearPetitions_50 : decode cX5_hearPetitions 50 = .ok (.iload_n 3, 1) := by decide +kernel
theorem dX5_hearPetitions_51 : decode cX5_hearPetitions 51 = .ok (.iload 4, 2) := by decide +kernel
theorem dX5_hearPetitions_53 : decode cX5_hearPetitions 53 = .ok (.iastore, 1) := by decide +kernel
theorem dX5_hearPetitions_54 : decode cX5_hearPetitions 54 = .ok (.iload 4, 2) := by decide +kernel
theorem dX5_hearPetitions_56 : decode cX5_hearPetitions 56 = .ok (.ifCond .ne 11, 3) := by decide +kernel
theorem dX5_hearPetitions_59 : decode cX5_hearPetitions 59 = .ok (.aload_n 0, 1) := by decide +kernel
theorem dX5_hearPetitions_60 : decode cX5_hearPetitions 60 = .ok (.iload_n 3, 1) := by decide +kernel
theorem dX5_hearPetitions_61 : decode cX5_hearPetitions 61 = .ok (.invokevirtual 145, 3) := by decide +kernel
theorem dX5_hearPetitions_64 : decode cX5_hearPetitions 64 = .ok (.iinc 1 1, 3) := by decide +kernel
theorem dX5_hearPetitions_67 : decode cX5_hearPetitions 67 = .ok (.iinc 2 1, 3) := by decide +kernel
theorem dX5_hearPetitions_70 : decode cX5_hearPetitions 70 = .ok (.goto (-66), 3) := by decide +kernel
theorem dX5_hearPetitions_73 : decode cX5_hearPetitions 73 = .ok (.iload_n 1, 1) := by decide +kernel
theorem dX5_hearPetitions_74 : decode cX5_hearPetitions 74 = .ok (.ireturn, 1) := by decide +kernel
theorem dX5_reasonToRefuse_0 : decode cX5_reasonToRefuse 0 = .ok (.aload_n 0, 1) := by decide +kernel
theorem dX5_reasonToRefuse_1 : decode cX5_reasonToRefuse 1 = .ok (.getfield 28, 3) := by decide +kernel
theorem dX5_reasonToRefuse_4 : decode cX5_reasonToRefuse 4 = .ok (.getfield 149, 3) := by decide +kernel
theorem dX5_reasonToRefuse_7 : decode cX5_reasonToRefuse 7 = .ok (.iload_n 1, 1) := by decide +kernel
theorem dX5_reasonToRefuse_8 : decode cX5_reasonToRefuse 8 = .ok (.iaload, 1) := by decide +kernel
theorem dX5_reasonToRefuse_9 : decode cX5_reasonToRefuse 9 = .ok (.istore_n 3, 1) := by decide +kernel
theorem dX5_reasonToRefuse_10 : decode cX5_reasonToRefuse 10 = .ok (.aload_n 0, 1) := by decide +kernel
theorem dX5_reasonToRefuse_11 : decode cX5_reasonToRefuse 11 = .ok (.getfield 28, 3) := by decide +kernel
theorem dX5_reasonToRefuse_14 : decode cX5_reasonToRefuse 14 = .ok (.getfield 152, 3) := by decide +kernel
theorem dX5_reasonToRefuse_17 : decode cX5_reasonToRefuse 17 = .ok (.iload_n 1, 1) := by decide +kernel
theorem dX5_reasonToRefuse_18 : decode cX5_reasonToRefuse 18 = .ok (.iaload, 1) := by decide +kernel
theorem dX5_reasonToRefuse_19 : decode cX5_reasonToRefuse 19 = .ok (.istore 4, 2) := by decide +kernel
theorem dX5_reasonToRefuse_21 : decode cX5_reasonToRefuse 21 = .ok (.aload_n 0, 1) := by decide +kernel
theorem dX5_reasonToRefuse_22 : decode cX5_reasonToRefuse 22 = .ok (.getfield 28, 3) := by decide +kernel
theorem dX5_reasonToRefuse_25 : decode cX5_reasonToRefuse 25 = .ok (.getfield 155, 3) := by decide +kernel
theorem dX5_reasonToRefuse_28 : decode cX5_reasonToRefuse 28 = .ok (.iload_n 1, 1) := by decide +kernel
theorem dX5_reasonToRefuse_29 : decode cX5_reasonToRefuse 29 = .ok (.iaload, 1) := by decide +kernel
theorem dX5_reasonToRefuse_30 : decode cX5_reasonToRefuse 30 = .ok (.istore 5, 2) := by decide +kernel
theorem dX5_reasonToRefuse_32 : decode cX5_reasonToRefuse 32 = .ok (.iload_n 2, 1) := by decide +kernel
theorem dX5_reasonToRefuse_33 : decode cX5_reasonToRefuse 33 = .ok (.aload_n 0, 1) := by decide +kernel
theorem dX5_reasonToRefuse_34 : decode cX5_reasonToRefuse 34 = .ok (.getfield 39, 3) := by decide +kernel
theorem dX5_reasonToRefuse_37 : decode cX5_reasonToRefuse 37 = .ok (.iconst 0, 1) := by decide +kernel
theorem dX5_reasonToRefuse_38 : decode cX5_reasonToRefuse 38 = .ok (.iaload, 1) := by decide +kernel
theorem dX5_reasonToRefuse_39 : decode cX5_reasonToRefuse 39 = .ok (.if_icmp .ge 5, 3) := by decide +kernel
theorem dX5_reasonToRefuse_42 : decode cX5_reasonToRefuse 42 = .ok (.iconst 1, 1) := by decide +kernel
theorem dX5_reasonToRefuse_43 : decode cX5_reasonToRefuse 43 = .ok (.ireturn, 1) := by decide +kernel
theorem dX5_reasonToRefuse_44 : decode cX5_reasonToRefuse 44 = .ok (.iload_n 2, 1) := by decide +kernel
theorem dX5_reasonToRefuse_45 : decode cX5_reasonToRefuse 45 = .ok (.aload_n 0, 1) := by decide +kernel
theorem dX5_reasonToRefuse_46 : decode cX5_reasonToRefuse 46 = .ok (.getfield 35, 3) := by decide +kernel
theorem dX5_reasonToRefuse_49 : decode cX5_reasonToRefuse 49 = .ok (.iload_n 3, 1) := by decide +kernel
theorem dX5_reasonToRefuse_50 : decode cX5_reasonToRefuse 50 = .ok (.iload 4, 2) := by decide +kernel
theorem dX5_reasonToRefuse_52 : decode cX5_reasonToRefuse 52 = .ok (.iload 5, 2) := by decide +kernel
theorem dX5_reasonToRefuse_54 : decode cX5_reasonToRefuse 54 = .ok (.invokevirtual 158, 3) := by decide +kernel
theorem dX5_reasonToRefuse_57 : decode cX5_reasonToRefuse 57 = .ok (.if_icmp .gt 5, 3) := by decide +kernel
theorem dX5_reasonToRefuse_60 : decode cX5_reasonToRefuse 60 = .ok (.iconst 2, 1) := by decide +kernel
theorem dX5_reasonToRefuse_61 : decode cX5_reasonToRefuse 61 = .ok (.ireturn, 1) := by decide +kernel
theorem dX5_reasonToRefuse_62 : decode cX5_reasonToRefuse 62 = .ok (.aload_n 0, 1) := by decide +kernel
theorem dX5_reasonToRefuse_63 : decode cX5_reasonToRefuse 63 = .ok (.getfield 21, 3) := by decide +kernel
theorem dX5_reasonToRefuse_66 : decode cX5_reasonToRefuse 66 = .ok (.iload_n 3, 1) := by decide +kernel
theorem dX5_reasonToRefuse_67 : decode cX5_reasonToRefuse 67 = .ok (.iload 4, 2) := by decide +kernel
theorem dX5_reasonToRefuse_69 : decode cX5_reasonToRefuse 69 = .ok (.invokevirtual 162, 3) := by decide +kernel
theorem dX5_reasonToRefuse_72 : decode cX5_reasonToRefuse 72 = .ok (.istore 6, 2) := by decide +kernel
theorem dX5_reasonToRefuse_74 : decode cX5_reasonToRefuse 74 = .ok (.iload 5, 2) := by decide +kernel
theorem dX5_reasonToRefuse_76 : decode cX5_reasonToRefuse 76 = .ok (.iconst 2, 1) := by decide +kernel
theorem dX5_reasonToRefuse_77 : decode cX5_reasonToRefuse 77 = .ok (.if_icmp .ne 30, 3) := by decide +kernel
theorem dX5_reasonToRefuse_80 : decode cX5_reasonToRefuse 80 = .ok (.iload 6, 2) := by decide +kernel
theorem dX5_reasonToRefuse_82 : decode cX5_reasonToRefuse 82 = .ok (.ifCond .ne 5, 3) := by decide +kernel
theorem dX5_reasonToRefuse_85 : decode cX5_reasonToRefuse 85 = .ok (.iconst 4, 1) := by decide +kernel
theorem dX5_reasonToRefuse_86 : decode cX5_reasonToRefuse 86 = .ok (.ireturn, 1) := by decide +kernel
theorem dX5_reasonToRefuse_87 : decode cX5_reasonToRefuse 87 = .ok (.iconst 2, 1) := by decide +kernel
theorem dX5_reasonToRefuse_88 : decode cX5_reasonToRefuse 88 = .ok (.iload_n 2, 1) := by decide +kernel
theorem dX5_reasonToRefuse_89 : decode cX5_reasonToRefuse 89 = .ok (.imul, 1) := by decide +kernel
theorem dX5_reasonToRefuse_90 : decode cX5_reasonToRefuse 90 = .ok (.aload_n 0, 1) := by decide +kernel
theorem dX5_reasonToRefuse_91 : decode cX5_reasonToRefuse 91 = .ok (.getfield 12, 3) := by decide +kernel
theorem dX5_reasonToRefuse_94 : decode cX5_reasonToRefuse 94 = .ok (.iload_n 3, 1) := by decide +kernel
theorem dX5_reasonToRefuse_95 : decode cX5_reasonToRefuse 95 = .ok (.invokevirtual 165, 3) := by decide +kernel
theorem dX5_reasonToRefuse_98 : decode cX5_reasonToRefuse 98 = .ok (.if_icmp .le 7, 3) := by decide +kernel
theorem dX5_reasonToRefuse_101 : decode cX5_reasonToRefuse 101 = .ok (.iconst 0, 1) := by decide +kernel
theorem dX5_reasonToRefuse_102 : decode cX5_reasonToRefuse 102 = .ok (.goto 4, 3) := by decide +kernel
theorem dX5_reasonToRefuse_105 : decode cX5_reasonToRefuse 105 = .ok (.iconst 5, 1) := by decide +kernel
theorem dX5_reasonToRefuse_106 : decode cX5_reasonToRefuse 106 = .ok (.ireturn, 1) := by decide +kernel
theorem dX5_reasonToRefuse_107 : decode cX5_reasonToRefuse 107 = .ok (.aload_n 0, 1) := by decide +kernel
theorem dX5_reasonToRefuse_108 : decode cX5_reasonToRefuse 108 = .ok (.getfield 21, 3) := by decide +kernel
theorem dX5_reasonToRefuse_111 : decode cX5_reasonToRefuse 111 = .ok (.bipush 6, 2) := by decide +kernel
theorem dX5_reasonToRefuse_113 : decode cX5_reasonToRefuse 113 = .ok (.iload 4, 2) := by decide +kernel
theorem dX5_reasonToRefuse_115 : decode cX5_reasonToRefuse 115 = .ok (.invokevirtual 168, 3) := by decide +kernel
theorem dX5_reasonToRefuse_118 : decode cX5_reasonToRefuse 118 = .ok (.iload 5, 2) := by decide +kernel
theorem dX5_reasonToRefuse_120 : decode cX5_reasonToRefuse 120 = .ok (.if_icmp .eq 7, 3) := by decide +kernel
theorem dX5_reasonToRefuse_123 : decode cX5_reasonToRefuse 123 = .ok (.iconst 1, 1) := by decide +kernel
theorem dX5_reasonToRefuse_124 : decode cX5_reasonToRefuse 124 = .ok (.goto 4, 3) := by decide +kernel
theorem dX5_reasonToRefuse_127 : decode cX5_reasonToRefuse 127 = .ok (.iconst 0, 1) := by decide +kernel
theorem dX5_reasonToRefuse_128 : decode cX5_reasonToRefuse 128 = .ok (.istore 7, 2) := by decide +kernel
theorem dX5_reasonToRefuse_130 : decode cX5_reasonToRefuse 130 = .ok (.iload_n 3, 1) := by decide +kernel
theorem dX5_reasonToRefuse_131 : decode cX5_reasonToRefuse 131 = .ok (.bipush 6, 2) := by decide +kernel
theorem dX5_reasonToRefuse_133 : decode cX5_reasonToRefuse 133 = .ok (.if_icmp .eq 25, 3) := by decide +kernel
theorem dX5_reasonToRefuse_136 : decode cX5_reasonToRefuse 136 = .ok (.iload 7, 2) := by decide +kernel
theorem dX5_reasonToRefuse_138 : decode cX5_reasonToRefuse 138 = .ok (.ifCond .eq 20, 3) := by decide +kernel
theorem dX5_reasonToRefuse_141 : decode cX5_reasonToRefuse 141 = .ok (.aload_n 0, 1) := by decide +kernel
theorem dX5_reasonToRefuse_142 : decode cX5_reasonToRefuse 142 = .ok (.getfield 21, 3) := by decide +kernel
theorem dX5_reasonToRefuse_145 : decode cX5_reasonToRefuse 145 = .ok (.bipush 6, 2) := by decide +kernel
theorem dX5_reasonToRefuse_147 : decode cX5_reasonToRefuse 147 = .ok (.iload 4, 2) := by decide +kernel
theorem dX5_reasonToRefuse_149 : decode cX5_reasonToRefuse 149 = .ok (.invokevirtual 162, 3) := by decide +kernel
theorem dX5_reasonToRefuse_152 : decode cX5_reasonToRefuse 152 = .ok (.iload_n 2, 1) := by decide +kernel
theorem dX5_reasonToRefuse_153 : decode cX5_reasonToRefuse 153 = .ok (.if_icmp .le 5, 3) := by decide +kernel
theorem dX5_reasonToRefuse_156 : decode cX5_reasonToRefuse 156 = .ok (.iconst 3, 1) := by decide +kernel
theorem dX5_reasonToRefuse_157 : decode cX5_reasonToRefuse 157 = .ok (.ireturn, 1) := by decide +kernel
theorem dX5_reasonToRefuse_158 : decode cX5_reasonToRefuse 158 = .ok (.aload_n 0, 1) := by decide +kernel
theorem dX5_reasonToRefuse_159 : decode cX5_reasonToRefuse 159 = .ok (.getfield 21, 3) := by decide +kernel
theorem dX5_reasonToRefuse_162 : decode cX5_reasonToRefuse 162 = .ok (.iload_n 3, 1) := by decide +kernel
theorem dX5_reasonToRefuse_163 : decode cX5_reasonToRefuse 163 = .ok (.iload 4, 2) := by decide +kernel
theorem dX5_reasonToRefuse_165 : decode cX5_reasonToRefuse 165 = .ok (.invokevirtual 168, 3) := by decide +kernel
theorem dX5_reasonToRefuse_168 : decode cX5_reasonToRefuse 168 = .ok (.iload 5, 2) := by decide +kernel
theorem dX5_reasonToRefuse_170 : decode cX5_reasonToRefuse 170 = .ok (.if_icmp .ne 13, 3) := by decide +kernel
theorem dX5_reasonToRefuse_173 : decode cX5_reasonToRefuse 173 = .ok (.iload 6, 2) := by decide +kernel
theorem dX5_reasonToRefuse_175 : decode cX5_reasonToRefuse 175 = .ok (.iload_n 2, 1) := by decide +kernel
theorem dX5_reasonToRefuse_176 : decode cX5_reasonToRefuse 176 = .ok (.if_icmp .lt 7, 3) := by decide +kernel
theorem dX5_reasonToRefuse_179 : decode cX5_reasonToRefuse 179 = .ok (.iconst 4, 1) := by decide +kernel
theorem dX5_reasonToRefuse_180 : decode cX5_reasonToRefuse 180 = .ok (.goto 4, 3) := by decide +kernel
theorem dX5_reasonToRefuse_183 : decode cX5_reasonToRefuse 183 = .ok (.iconst 0, 1) := by decide +kernel
theorem dX5_reasonToRefuse_184 : decode cX5_reasonToRefuse 184 = .ok (.ireturn, 1) := by decide +kernel
theorem dX5_grant_0 : decode cX5_grant 0 = .ok (.aload_n 0, 1) := by decide +kernel
theorem dX5_grant_1 : decode cX5_grant 1 = .ok (.getfield 28, 3) := by decide +kernel
theorem dX5_grant_4 : decode cX5_grant 4 = .ok (.getfield 149, 3) := by decide +kernel
theorem dX5_grant_7 : decode cX5_grant 7 = .ok (.iload_n 1, 1) := by decide +kernel
theorem dX5_grant_8 : decode cX5_grant 8 = .ok (.iaload, 1) := by decide +kernel
theorem dX5_grant_9 : decode cX5_grant 9 = .ok (.bipush 20, 2) := by decide +kernel
theorem dX5_grant_11 : decode cX5_grant 11 = .ok (.imul, 1) := by decide +kernel
theorem dX5_grant_12 : decode cX5_grant 12 = .ok (.aload_n 0, 1) := by decide +kernel
theorem dX5_grant_13 : decode cX5_grant 13 = .ok (.getfield 28, 3) := by decide +kernel
theorem dX5_grant_16 : decode cX5_grant 16 = .ok (.getfield 152, 3) := by decide +kernel
theorem dX5_grant_19 : decode cX5_grant 19 = .ok (.iload_n 1, 1) := by decide +kernel
theorem dX5_grant_20 : decode cX5_grant 20 = .ok (.iaload, 1) := by decide +kernel
theorem dX5_grant_21 : decode cX5_grant 21 = .ok (.iadd, 1) := by decide +kernel
theorem dX5_grant_22 : decode cX5_grant 22 = .ok (.istore_n 2, 1) := by decide +kernel
theorem dX5_grant_23 : decode cX5_grant 23 = .ok (.aload_n 0, 1) := by decide +kernel
theorem dX5_grant_24 : decode cX5_grant 24 = .ok (.getfield 28, 3) := by decide +kernel
theorem dX5_grant_27 : decode cX5_grant 27 = .ok (.getfield 155, 3) := by decide +kernel
theorem dX5_grant_30 : decode cX5_grant 30 = .ok (.iload_n 1, 1) := by decide +kernel
theorem dX5_grant_31 : decode cX5_grant 31 = .ok (.iaload, 1) := by decide +kernel
theorem dX5_grant_32 : decode cX5_grant 32 = .ok (.iconst 2, 1) := by decide +kernel
theorem dX5_grant_33 : decode cX5_grant 33 = .ok (.if_icmp .ne 26, 3) := by decide +kernel
theorem dX5_grant_36 : decode cX5_grant 36 = .ok (.aload_n 0, 1) := by decide +kernel
theorem dX5_grant_37 : decode cX5_grant 37 = .ok (.getfield 21, 3) := by decide +kernel
theorem dX5_grant_40 : decode cX5_grant 40 = .ok (.getfield 171, 3) := by decide +kernel
theorem dX5_grant_43 : decode cX5_grant 43 = .ok (.iload_n 2, 1) := by decide +kernel
theorem dX5_grant_44 : decode cX5_grant 44 = .ok (.iconst 0, 1) := by decide +kernel
theorem dX5_grant_45 : decode cX5_grant 45 = .ok (.iastore, 1) := by decide +kernel
theorem dX5_grant_46 : decode cX5_grant 46 = .ok (.aload_n 0, 1) := by decide +kernel
theorem dX5_grant_47 : decode cX5_grant 47 = .ok (.dup, 1) := by decide +kernel
theorem dX5_grant_48 : decode cX5_grant 48 = .ok (.getfield 69, 3) := by decide +kernel
theorem dX5_grant_51 : decode cX5_grant 51 = .ok (.iconst 1, 1) := by decide +kernel
theorem dX5_grant_52 : decode cX5_grant 52 = .ok (.iadd, 1) := by decide +kernel
theorem dX5_grant_53 : decode cX5_grant 53 = .ok (.putfield 69, 3) := by decide +kernel
theorem dX5_grant_56 : decode cX5_grant 56 = .ok (.goto 52, 3) := by decide +kernel
theorem dX5_grant_59 : decode cX5_grant 59 = .ok (.aload_n 0, 1) := by decide +kernel
theorem dX5_grant_60 : decode cX5_grant 60 = .ok (.getfield 21, 3) := by decide +kernel
theorem dX5_grant_63 : decode cX5_grant 63 = .ok (.getfield 174, 3) := by decide +kernel
theorem dX5_grant_66 : decode cX5_grant 66 = .ok (.iload_n 2, 1) := by decide +kernel
theorem dX5_grant_67 : decode cX5_grant 67 = .ok (.aload_n 0, 1) := by decide +kernel
theorem dX5_grant_68 : decode cX5_grant 68 = .ok (.getfield 28, 3) := by decide +kernel
theorem dX5_grant_71 : decode cX5_grant 71 = .ok (.getfield 155, 3) := by decide +kernel
theorem dX5_grant_74 : decode cX5_grant 74 = .ok (.iload_n 1, 1) := by decide +kernel
theorem dX5_grant_75 : decode cX5_grant 75 = .ok (.iaload, 1) := by decide +kernel
theorem dX5_grant_76 : decode cX5_grant 76 = .ok (.iastore, 1) := by decide +kernel
theorem dX5_grant_77 : decode cX5_grant 77 = .ok (.aload_n 0, 1) := by decide +kernel
theorem dX5_grant_78 : decode cX5_grant 78 = .ok (.getfield 21, 3) := by decide +kernel
theorem dX5_grant_81 : decode cX5_grant 81 = .ok (.getfield 171, 3) := by decide +kernel
theorem dX5_grant_84 : decode cX5_grant 84 = .ok (.iload_n 2, 1) := by decide +kernel
theorem dX5_grant_85 : decode cX5_grant 85 = .ok (.aload_n 0, 1) := by decide +kernel
theorem dX5_grant_86 : decode cX5_grant 86 = .ok (.getfield 28, 3) := by decide +kernel
theorem dX5_grant_89 : decode cX5_grant 89 = .ok (.getfield 118, 3) := by decide +kernel
theorem dX5_grant_92 : decode cX5_grant 92 = .ok (.iload_n 1, 1) := by decide +kernel
theorem dX5_grant_93 : decode cX5_grant 93 = .ok (.iaload, 1) := by decide +kernel
theorem dX5_grant_94 : decode cX5_grant 94 = .ok (.iastore, 1) := by decide +kernel
theorem dX5_grant_95 : decode cX5_grant 95 = .ok (.aload_n 0, 1) := by decide +kernel
theorem dX5_grant_96 : decode cX5_grant 96 = .ok (.getfield 21, 3) := by decide +kernel
theorem dX5_grant_99 : decode cX5_grant 99 = .ok (.getfield 177, 3) := by decide +kernel
theorem dX5_grant_102 : decode cX5_grant 102 = .ok (.iload_n 2, 1) := by decide +kernel
theorem dX5_grant_103 : decode cX5_grant 103 = .ok (.aload_n 0, 1) := by decide +kernel
theorem dX5_grant_104 : decode cX5_grant 104 = .ok (.getfield 63, 3) := by decide +kernel
theorem dX5_grant_107 : decode cX5_grant 107 = .ok (.iastore, 1) := by decide +kernel
theorem dX5_grant_108 : decode cX5_grant 108 = .ok (.return_, 1) := by decide +kernel
theorem dX6_init_0 : decode cX6_init 0 = .ok (.aload_n 0, 1) := by decide +kernel
theorem dX6_init_1 : decode cX6_init 1 = .ok (.invokespecial 3, 3) := by decide +kernel
theorem dX6_init_4 : decode cX6_init 4 = .ok (.aload_n 0, 1) := by decide +kernel
theorem dX6_init_5 : decode cX6_init 5 = .ok (.bipush 12, 2) := by decide +kernel
theorem dX6_init_7 : decode cX6_init 7 = .ok (.newarray .int, 2) := by decide +kernel
theorem dX6_init_9 : decode cX6_init 9 = .ok (.putfield 9, 3) := by decide +kernel
theorem dX6_init_12 : decode cX6_init 12 = .ok (.aload_n 0, 1) := by decide +kernel
theorem dX6_init_13 : decode cX6_init 13 = .ok (.bipush 12, 2) := by decide +kernel
theorem dX6_init_15 : decode cX6_init 15 = .ok (.newarray .int, 2) := by decide +kernel
theorem dX6_init_17 : decode cX6_init 17 = .ok (.putfield 15, 3) := by decide +kernel
theorem dX6_init_20 : decode cX6_init 20 = .ok (.aload_n 0, 1) := by decide +kernel
theorem dX6_init_21 : decode cX6_init 21 = .ok (.bipush 12, 2) := by decide +kernel
theorem dX6_init_23 : decode cX6_init 23 = .ok (.newarray .int, 2) := by decide +kernel
theorem dX6_init_25 : decode cX6_init 25 = .ok (.putfield 18, 3) := by decide +kernel
theorem dX6_init_28 : decode cX6_init 28 = .ok (.aload_n 0, 1) := by decide +kernel
theorem dX6_init_29 : decode cX6_init 29 = .ok (.bipush 12, 2) := by decide +kernel
theorem dX6_init_31 : decode cX6_init 31 = .ok (.newarray .int, 2) := by decide +kernel
theorem dX6_init_33 : decode cX6_init 33 = .ok (.putfield 21, 3) := by decide +kernel
theorem dX6_init_36 : decode cX6_init 36 = .ok (.aload_n 0, 1) := by decide +kernel
theorem dX6_init_37 : decode cX6_init 37 = .ok (.bipush 12, 2) := by decide +kernel
theorem dX6_init_39 : decode cX6_init 39 = .ok (.newarray .int, 2) := by decide +kernel
theorem dX6_init_41 : decode cX6_init 41 = .ok (.putfield 24, 3) := by decide +kernel
theorem dX6_init_44 : decode cX6_init 44 = .ok (.return_, 1) := by decide +kernel
theorem dX6_copyFrom_0 : decode cX6_copyFrom 0 = .ok (.aload_n 0, 1) := by decide +kernel
theorem dX6_copyFrom_1 : decode cX6_copyFrom 1 = .ok (.aload_n 1, 1) := by decide +kernel
theorem dX6_copyFrom_2 : decode cX6_copyFrom 2 = .ok (.getfield 27, 3) := by decide +kernel
theorem dX6_copyFrom_5 : decode cX6_copyFrom 5 = .ok (.putfield 27, 3) := by decide +kernel
theorem dX6_copyFrom_8 : decode cX6_copyFrom 8 = .ok (.aload_n 1, 1) := by decide +kernel
theorem dX6_copyFrom_9 : decode cX6_copyFrom 9 = .ok (.getfield 9, 3) := by decide +kernel
theorem dX6_copyFrom_12 : decode cX6_copyFrom 12 = .ok (.iconst 0, 1) := by decide +kernel
theorem dX6_copyFrom_13 : decode cX6_copyFrom 13 = .ok (.aload_n 0, 1) := by decide +kernel
theorem dX6_copyFrom_14 : decode cX6_copyFrom 14 = .ok (.getfield 9, 3) := by decide +kernel
theorem dX6_copyFrom_17 : decode cX6_copyFrom 17 = .ok (.iconst 0, 1) := by decide +kernel
theorem dX6_copyFrom_18 : decode cX6_copyFrom 18 = .ok (.bipush 12, 2) := by decide +kernel
theorem dX6_copyFrom_20 : decode cX6_copyFrom 20 = .ok (.invokestatic 31, 3) := by decide +kernel
theorem dX6_copyFrom_23 : decode cX6_copyFrom 23 = .ok (.aload_n 1, 1) := by decide +kernel
theorem dX6_copyFrom_24 : decode cX6_copyFrom 24 = .ok (.getfield 15, 3) := by decide +kernel
theorem dX6_copyFrom_27 : decode cX6_copyFrom 27 = .ok (.iconst 0, 1) := by decide +kernel
theorem dX6_copyFrom_28 : decode cX6_copyFrom 28 = .ok (.aload_n 0, 1) := by decide +kernel
theorem dX6_copyFrom_29 : decode cX6_copyFrom 29 = .ok (.getfield 15, 3) := by decide +kernel
theorem dX6_copyFrom_32 : decode cX6_copyFrom 32 = .ok (.iconst 0, 1) := by decide +kernel
theorem dX6_copyFrom_33 : decode cX6_copyFrom 33 = .ok (.bipush 12, 2) := by decide +kernel
theorem dX6_copyFrom_35 : decode cX6_copyFrom 35 = .ok (.invokestatic 31, 3) := by decide +kernel
theorem dX6_copyFrom_38 : decode cX6_copyFrom 38 = .ok (.aload_n 1, 1) := by decide +kernel
theorem dX6_copyFrom_39 : decode cX6_copyFrom 39 = .ok (.getfield 18, 3) := by decide +kernel
theorem dX6_copyFrom_42 : decode cX6_copyFrom 42 = .ok (.iconst 0, 1) := by decide +kernel
theorem dX6_copyFrom_43 : decode cX6_copyFrom 43 = .ok (.aload_n 0, 1) := by decide +kernel
theorem dX6_copyFrom_44 : decode cX6_copyFrom 44 = .ok (.getfield 18, 3) := by decide +kernel
theorem dX6_copyFrom_47 : decode cX6_copyFrom 47 = .ok (.iconst 0, 1) := by decide +kernel
theorem dX6_copyFrom_48 : decode cX6_copyFrom 48 = .ok (.bipush 12, 2) := by decide +kernel
theorem dX6_copyFrom_50 : decode cX6_copyFrom 50 = .ok (.invokestatic 31, 3) := by decide +kernel
theorem dX6_copyFrom_53 : decode cX6_copyFrom 53 = .ok (.aload_n 1, 1) := by decide +kernel
theorem dX6_copyFrom_54 : decode cX6_copyFrom 54 = .ok (.getfield 21, 3) := by decide +kernel
theorem dX6_copyFrom_57 : decode cX6_copyFrom 57 = .ok (.iconst 0, 1) := by decide +kernel
theorem dX6_copyFrom_58 : decode cX6_copyFrom 58 = .ok (.aload_n 0, 1) := by decide +kernel
theorem dX6_copyFrom_59 : decode cX6_copyFrom 59 = .ok (.getfield 21, 3) := by decide +kernel
theorem dX6_copyFrom_62 : decode cX6_copyFrom 62 = .ok (.iconst 0, 1) := by decide +kernel
theorem dX6_copyFrom_63 : decode cX6_copyFrom 63 = .ok (.bipush 12, 2) := by decide +kernel
theorem dX6_copyFrom_65 : decode cX6_copyFrom 65 = .ok (.invokestatic 31, 3) := by decide +kernel
theorem dX6_copyFrom_68 : decode cX6_copyFrom 68 = .ok (.aload_n 1, 1) := by decide +kernel
theorem dX6_copyFrom_69 : decode cX6_copyFrom 69 = .ok (.getfield 24, 3) := by decide +kernel
theorem dX6_copyFrom_72 : decode cX6_copyFrom 72 = .ok (.iconst 0, 1) := by decide +kernel
theorem dX6_copyFrom_73 : decode cX6_copyFrom 73 = .ok (.aload_n 0, 1) := by decide +kernel
theorem dX6_copyFrom_74 : decode cX6_copyFrom 74 = .ok (.getfield 24, 3) := by decide +kernel
theorem dX6_copyFrom_77 : decode cX6_copyFrom 77 = .ok (.iconst 0, 1) := by decide +kernel
theorem dX6_copyFrom_78 : decode cX6_copyFrom 78 = .ok (.bipush 12, 2) := by decide +kernel
theorem dX6_copyFrom_80 : decode cX6_copyFrom 80 = .ok (.invokestatic 31, 3) := by decide +kernel
theorem dX6_copyFrom_83 : decode cX6_copyFrom 83 = .ok (.return_, 1) := by decide +kernel
theorem dX6_knows_0 : decode cX6_knows 0 = .ok (.iload_n 1, 1) := by decide +kernel
theorem dX6_knows_1 : decode cX6_knows 1 = .ok (.ifCond .lt 15, 3) := by decide +kernel
theorem dX6_knows_4 : decode cX6_knows 4 = .ok (.iload_n 1, 1) := by decide +kernel
theorem dX6_knows_5 : decode cX6_knows 5 = .ok (.aload_n 0, 1) := by decide +kernel
theorem dX6_knows_6 : decode cX6_knows 6 = .ok (.getfield 27, 3) := by decide +kernel
theorem dX6_knows_9 : decode cX6_knows 9 = .ok (.if_icmp .ge 7, 3) := by decide +kernel
theorem dX6_knows_12 : decode cX6_knows 12 = .ok (.iconst 1, 1) := by decide +kernel
theorem dX6_knows_13 : decode cX6_knows 13 = .ok (.goto 4, 3) := by decide +kernel
theorem dX6_knows_16 : decode cX6_knows 16 = .ok (.iconst 0, 1) := by decide +kernel
theorem dX6_knows_17 : decode cX6_knows 17 = .ok (.ireturn, 1) := by decide +kernel
theorem dX6_add_0 : decode cX6_add 0 = .ok (.aload_n 0, 1) := by decide +kernel
theorem dX6_add_1 : decode cX6_add 1 = .ok (.getfield 9, 3) := by decide +kernel
theorem dX6_add_4 : decode cX6_add 4 = .ok (.aload_n 0, 1) := by decide +kernel
theorem dX6_add_5 : decode cX6_add 5 = .ok (.getfield 27, 3) := by decide +kernel
theorem dX6_add_8 : decode cX6_add 8 = .ok (.iload_n 1, 1) := by decide +kernel
theorem dX6_add_9 : decode cX6_add 9 = .ok (.iastore, 1) := by decide +kernel
theorem dX6_add_10 : decode cX6_add 10 = .ok (.aload_n 0, 1) := by decide +kernel
theorem dX6_add_11 : decode cX6_add 11 = .ok (.getfield 15, 3) := by decide +kernel
theorem dX6_add_14 : decode cX6_add 14 = .ok (.aload_n 0, 1) := by decide +kernel
theorem dX6_add_15 : decode cX6_add 15 = .ok (.getfield 27, 3) := by decide +kernel
theorem dX6_add_18 : decode cX6_add 18 = .ok (.iload_n 2, 1) := by decide +kernel
theorem dX6_add_19 : decode cX6_add 19 = .ok (.iastore, 1) := by decide +kernel
theorem dX6_add_20 : decode cX6_add 20 = .ok (.aload_n 0, 1) := by decide +kernel
theorem dX6_add_21 : decode cX6_add 21 = .ok (.dup, 1) := by decide +kernel
theorem dX6_add_22 : decode cX6_add 22 = .ok (.getfield 27, 3) := by decide +kernel
theorem dX6_add_25 : decode cX6_add 25 = .ok (.iconst 1, 1) := by decide +kernel
theorem dX6_add_26 : decode cX6_add 26 = .ok (.iadd, 1) := by decide +kernel
theorem dX6_add_27 : decode cX6_add 27 = .ok (.putfield 27, 3) := by decide +kernel
theorem dX6_add_30 : decode cX6_add 30 = .ok (.aload_n 0, 1) := by decide +kernel
theorem dX6_add_31 : decode cX6_add 31 = .ok (.getfield 27, 3) := by decide +kernel
theorem dX6_add_34 : decode cX6_add 34 = .ok (.iconst 1, 1) := by decide +kernel
theorem dX6_add_35 : decode cX6_add 35 = .ok (.isub, 1) := by decide +kernel
theorem dX6_add_36 : decode cX6_add 36 = .ok (.ireturn, 1) := by decide +kernel
theorem dX6_weightAt_0 : decode cX6_weightAt 0 = .ok (.iconst 0, 1) := by decide +kernel
theorem dX6_weightAt_1 : decode cX6_weightAt 1 = .ok (.istore_n 2, 1) := by decide +kernel
theorem dX6_weightAt_2 : decode cX6_weightAt 2 = .ok (.iconst 0, 1) := by decide +kernel
theorem dX6_weightAt_3 : decode cX6_weightAt 3 = .ok (.istore_n 3, 1) := by decide +kernel
theorem dX6_weightAt_4 : decode cX6_weightAt 4 = .ok (.iload_n 3, 1) := by decide +kernel
theorem dX6_weightAt_5 : decode cX6_weightAt 5 = .ok (.aload_n 0, 1) := by decide +kernel
theorem dX6_weightAt_6 : decode cX6_weightAt 6 = .ok (.getfield 27, 3) := by decide +kernel
theorem dX6_weightAt_9 : decode cX6_weightAt 9 = .ok (.if_icmp .ge 34, 3) := by decide +kernel
theorem dX6_weightAt_12 : decode cX6_weightAt 12 = .ok (.iload_n 1, 1) := by decide +kernel
theorem dX6_weightAt_13 : decode cX6_weightAt 13 = .ok (.bipush 6, 2) := by decide +kernel
theorem dX6_weightAt_15 : decode cX6_weightAt 15 = .ok (.if_icmp .eq 13, 3) := by decide +kernel
theorem dX6_weightAt_18 : decode cX6_weightAt 18 = .ok (.aload_n 0, 1) := by decide +kernel
theorem dX6_weightAt_19 : decode cX6_weightAt 19 = .ok (.getfield 9, 3) := by decide +kernel
theorem dX6_weightAt_22 : decode cX6_weightAt 22 = .ok (.iload_n 3, 1) := by decide +kernel
theorem dX6_weightAt_23 : decode cX6_weightAt 23 = .ok (.iaload, 1) := by decide +kernel
theorem dX6_weightAt_24 : decode cX6_weightAt 24 = .ok (.iload_n 1, 1) := by decide +kernel
theorem dX6_weightAt_25 : decode cX6_weightAt 25 = .ok (.if_icmp .ne 12, 3) := by decide +kernel
theorem dX6_weightAt_28 : decode cX6_weightAt 28 = .ok (.iload_n 2, 1) := by decide +kernel
theorem dX6_weightAt_29 : decode cX6_weightAt 29 = .ok (.aload_n 0, 1) := by decide +kernel
theorem dX6_weightAt_30 : decode cX6_weightAt 30 = .ok (.getfield 15, 3) := by decide +kernel
theorem dX6_weightAt_33 : decode cX6_weightAt 33 = .ok (.iload_n 3, 1) := by decide +kernel
theorem dX6_weightAt_34 : decode cX6_weightAt 34 = .ok (.iaload, 1) := by decide +kernel
theorem dX6_weightAt_35 : decode cX6_weightAt 35 = .ok (.iadd, 1) := by decide +kernel
theorem dX6_weightAt_36 : decode cX6_weightAt 36 = .ok (.istore_n 2, 1) := by decide +kernel
theorem dX6_weightAt_37 : decode cX6_weightAt 37 = .ok (.iinc 3 1, 3) := by decide +kernel
theorem dX6_weightAt_40 : decode cX6_weightAt 40 = .ok (.goto (-36), 3) := by decide +kernel
theorem dX6_weightAt_43 : decode cX6_weightAt 43 = .ok (.iload_n 2, 1) := by decide +kernel
theorem dX6_weightAt_44 : decode cX6_weightAt 44 = .ok (.ireturn, 1) := by decide +kernel
theorem dX7_init_0 : decode cX7_init 0 = .ok (.aload_n 0, 1) := by decide +kernel
theorem dX7_init_1 : decode cX7_init 1 = .ok (.invokespecial 3, 3) := by decide +kernel
theorem dX7_init_4 : decode cX7_init 4 = .ok (.aload_n 0, 1) := by decide +kernel
theorem dX7_init_5 : decode cX7_init 5 = .ok (.new 9, 3) := by decide +kernel
theorem dX7_init_8 : decode cX7_init 8 = .ok (.dup, 1) := by decide +kernel
theorem dX7_init_9 : decode cX7_init 9 = .ok (.invokespecial 11, 3) := by decide +kernel
theorem dX7_init_12 : decode cX7_init 12 = .ok (.putfield 12, 3) := by decide +kernel
theorem dX7_init_15 : decode cX7_init 15 = .ok (.aload_n 0, 1) := by decide +kernel
theorem dX7_init_16 : decode cX7_init 16 = .ok (.new 9, 3) := by decide +kernel
theorem dX7_init_19 : decode cX7_init 19 = .ok (.dup, 1) := by decide +kernel
theorem dX7_init_20 : decode cX7_init 20 = .ok (.invokespecial 11, 3) := by decide +kernel
theorem dX7_init_23 : decode cX7_init 23 = .ok (.putfield 16, 3) := by decide +kernel
theorem dX7_init_26 : decode cX7_init 26 = .ok (.aload_n 0, 1) := by decide +kernel
theorem dX7_init_27 : decode cX7_init 27 = .ok (.new 9, 3) := by decide +kernel
theorem dX7_init_30 : decode cX7_init 30 = .ok (.dup, 1) := by decide +kernel
theorem dX7_init_31 : decode cX7_init 31 = .ok (.invokespecial 11, 3) := by decide +kernel
theorem dX7_init_34 : decode cX7_init 34 = .ok (.putfield 19, 3) := by decide +kernel
theorem dX7_init_37 : decode cX7_init 37 = .ok (.aload_n 0, 1) := by decide +kernel
theorem dX7_init_38 : decode cX7_init 38 = .ok (.new 9, 3) := by decide +kernel
theorem dX7_init_41 : decode cX7_init 41 = .ok (.dup, 1) := by decide +kernel
theorem dX7_init_42 : decode cX7_init 42 = .ok (.invokespecial 11, 3) := by decide +kernel
end
section
theorem dX7_init_45 : decode cX7_init 45 = .ok (.putfield 22, 3) := by decide +kernel
theorem dX7_init_48 : decode cX7_init 48 = .ok (.aload_n 0, 1) := by decide +kernel
theorem dX7_init_49 : decode cX7_init 49 = .ok (.new 25, 3) := by decide +kernel
theorem dX7_init_52 : decode cX7_init 52 = .ok (.dup, 1) := by decide +kernel
theorem dX7_init_53 : decode cX7_init 53 = .ok (.invokespecial 27, 3) := by decide +kernel
theorem dX7_init_56 : decode cX7_init 56 = .ok (.putfield 28, 3) := by decide +kernel
theorem dX7_init_59 : decode cX7_init 59 = .ok (.aload_n 0, 1) := by decide +kernel
theorem dX7_init_60 : decode cX7_init 60 = .ok (.new 32, 3) := by decide +kernel
theorem dX7_init_63 : decode cX7_init 63 = .ok (.dup, 1) := by decide +kernel
theorem dX7_init_64 : decode cX7_init 64 = .ok (.invokespecial 34, 3) := by decide +kernel
theorem dX7_init_67 : decode cX7_init 67 = .ok (.putfield 35, 3) := by decide +kernel
theorem dX7_init_70 : decode cX7_init 70 = .ok (.return_, 1) := by decide +kernel
theorem dX7_come_0 : decode cX7_come 0 = .ok (.aload_n 0, 1) := by decide +kernel
theorem dX7_come_1 : decode cX7_come 1 = .ok (.getfield 16, 3) := by decide +kernel
theorem dX7_come_4 : decode cX7_come 4 = .ok (.aload_n 0, 1) := by decide +kernel
theorem dX7_come_5 : decode cX7_come 5 = .ok (.getfield 12, 3) := by decide +kernel
theorem dX7_come_8 : decode cX7_come 8 = .ok (.invokevirtual 39, 3) := by decide +kernel
theorem dX7_come_11 : decode cX7_come 11 = .ok (.aload_n 0, 1) := by decide +kernel
theorem dX7_come_12 : decode cX7_come 12 = .ok (.aload_n 0, 1) := by decide +kernel
theorem dX7_come_13 : decode cX7_come 13 = .ok (.getfield 12, 3) := by decide +kernel
theorem dX7_come_16 : decode cX7_come 16 = .ok (.iload_n 1, 1) := by decide +kernel
theorem dX7_come_17 : decode cX7_come 17 = .ok (.iload_n 2, 1) := by decide +kernel
theorem dX7_come_18 : decode cX7_come 18 = .ok (.invokevirtual 43, 3) := by decide +kernel
theorem dX7_come_21 : decode cX7_come 21 = .ok (.invokevirtual 47, 3) := by decide +kernel
theorem dX7_come_24 : decode cX7_come 24 = .ok (.ireturn, 1) := by decide +kernel
theorem dX7_move_0 : decode cX7_move 0 = .ok (.aload_n 0, 1) := by decide +kernel
theorem dX7_move_1 : decode cX7_move 1 = .ok (.getfield 16, 3) := by decide +kernel
theorem dX7_move_4 : decode cX7_move 4 = .ok (.aload_n 0, 1) := by decide +kernel
theorem dX7_move_5 : decode cX7_move 5 = .ok (.getfield 12, 3) := by decide +kernel
theorem dX7_move_8 : decode cX7_move 8 = .ok (.invokevirtual 39, 3) := by decide +kernel
theorem dX7_move_11 : decode cX7_move 11 = .ok (.aload_n 0, 1) := by decide +kernel
theorem dX7_move_12 : decode cX7_move 12 = .ok (.aload_n 0, 1) := by decide +kernel
theorem dX7_move_13 : decode cX7_move 13 = .ok (.getfield 12, 3) := by decide +kernel
theorem dX7_move_16 : decode cX7_move 16 = .ok (.iload_n 1, 1) := by decide +kernel
theorem dX7_move_17 : decode cX7_move 17 = .ok (.iload_n 2, 1) := by decide +kernel
theorem dX7_move_18 : decode cX7_move 18 = .ok (.invokevirtual 51, 3) := by decide +kernel
theorem dX7_move_21 : decode cX7_move 21 = .ok (.invokevirtual 47, 3) := by decide +kernel
theorem dX7_move_24 : decode cX7_move 24 = .ok (.ireturn, 1) := by decide +kernel
theorem dX7_petition_0 : decode cX7_petition 0 = .ok (.aload_n 0, 1) := by decide +kernel
theorem dX7_petition_1 : decode cX7_petition 1 = .ok (.getfield 16, 3) := by decide +kernel
theorem dX7_petition_4 : decode cX7_petition 4 = .ok (.aload_n 0, 1) := by decide +kernel
theorem dX7_petition_5 : decode cX7_petition 5 = .ok (.getfield 12, 3) := by decide +kernel
theorem dX7_petition_8 : decode cX7_petition 8 = .ok (.invokevirtual 39, 3) := by decide +kernel
theorem dX7_petition_11 : decode cX7_petition 11 = .ok (.aload_n 0, 1) := by decide +kernel
theorem dX7_petition_12 : decode cX7_petition 12 = .ok (.aload_n 0, 1) := by decide +kernel
theorem dX7_petition_13 : decode cX7_petition 13 = .ok (.getfield 12, 3) := by decide +kernel
theorem dX7_petition_16 : decode cX7_petition 16 = .ok (.iload_n 1, 1) := by decide +kernel
theorem dX7_petition_17 : decode cX7_petition 17 = .ok (.iload_n 2, 1) := by decide +kernel
theorem dX7_petition_18 : decode cX7_petition 18 = .ok (.iload_n 3, 1) := by decide +kernel
theorem dX7_petition_19 : decode cX7_petition 19 = .ok (.iload 4, 2) := by decide +kernel
theorem dX7_petition_21 : decode cX7_petition 21 = .ok (.invokevirtual 54, 3) := by decide +kernel
theorem dX7_petition_24 : decode cX7_petition 24 = .ok (.invokevirtual 47, 3) := by decide +kernel
theorem dX7_petition_27 : decode cX7_petition 27 = .ok (.ireturn, 1) := by decide +kernel
theorem dX7_second_0 : decode cX7_second 0 = .ok (.aload_n 0, 1) := by decide +kernel
theorem dX7_second_1 : decode cX7_second 1 = .ok (.getfield 16, 3) := by decide +kernel
theorem dX7_second_4 : decode cX7_second 4 = .ok (.aload_n 0, 1) := by decide +kernel
theorem dX7_second_5 : decode cX7_second 5 = .ok (.getfield 12, 3) := by decide +kernel
theorem dX7_second_8 : decode cX7_second 8 = .ok (.invokevirtual 39, 3) := by decide +kernel
theorem dX7_second_11 : decode cX7_second 11 = .ok (.aload_n 0, 1) := by decide +kernel
theorem dX7_second_12 : decode cX7_second 12 = .ok (.aload_n 0, 1) := by decide +kernel
theorem dX7_second_13 : decode cX7_second 13 = .ok (.getfield 12, 3) := by decide +kernel
theorem dX7_second_16 : decode cX7_second 16 = .ok (.iload_n 1, 1) := by decide +kernel
theorem dX7_second_17 : decode cX7_second 17 = .ok (.iload_n 2, 1) := by decide +kernel
theorem dX7_second_18 : decode cX7_second 18 = .ok (.invokevirtual 58, 3) := by decide +kernel
theorem dX7_second_21 : decode cX7_second 21 = .ok (.invokevirtual 47, 3) := by decide +kernel
theorem dX7_second_24 : decode cX7_second 24 = .ok (.ireturn, 1) := by decide +kernel
theorem dX7_pass_0 : decode cX7_pass 0 = .ok (.aload_n 0, 1) := by decide +kernel
theorem dX7_pass_1 : decode cX7_pass 1 = .ok (.getfield 16, 3) := by decide +kernel
theorem dX7_pass_4 : decode cX7_pass 4 = .ok (.aload_n 0, 1) := by decide +kernel
theorem dX7_pass_5 : decode cX7_pass 5 = .ok (.getfield 12, 3) := by decide +kernel
theorem dX7_pass_8 : decode cX7_pass 8 = .ok (.invokevirtual 39, 3) := by decide +kernel
theorem dX7_pass_11 : decode cX7_pass 11 = .ok (.aload_n 0, 1) := by decide +kernel
theorem dX7_pass_12 : decode cX7_pass 12 = .ok (.aload_n 0, 1) := by decide +kernel
theorem dX7_pass_13 : decode cX7_pass 13 = .ok (.getfield 12, 3) := by decide +kernel
theorem dX7_pass_16 : decode cX7_pass 16 = .ok (.iload_n 1, 1) := by decide +kernel
theorem dX7_pass_17 : decode cX7_pass 17 = .ok (.invokevirtual 61, 3) := by decide +kernel
theorem dX7_pass_20 : decode cX7_pass 20 = .ok (.invokevirtual 47, 3) := by decide +kernel
theorem dX7_pass_23 : decode cX7_pass 23 = .ok (.ireturn, 1) := by decide +kernel
theorem dX7_set_0 : decode cX7_set 0 = .ok (.aload_n 0, 1) := by decide +kernel
theorem dX7_set_1 : decode cX7_set 1 = .ok (.getfield 16, 3) := by decide +kernel
theorem dX7_set_4 : decode cX7_set 4 = .ok (.aload_n 0, 1) := by decide +kernel
theorem dX7_set_5 : decode cX7_set 5 = .ok (.getfield 12, 3) := by decide +kernel
theorem dX7_set_8 : decode cX7_set 8 = .ok (.invokevirtual 39, 3) := by decide +kernel
theorem dX7_set_11 : decode cX7_set 11 = .ok (.aload_n 0, 1) := by decide +kernel
theorem dX7_set_12 : decode cX7_set 12 = .ok (.aload_n 0, 1) := by decide +kernel
theorem dX7_set_13 : decode cX7_set 13 = .ok (.getfield 12, 3) := by decide +kernel
theorem dX7_set_16 : decode cX7_set 16 = .ok (.iload_n 1, 1) := by decide +kernel
theorem dX7_set_17 : decode cX7_set 17 = .ok (.iload_n 2, 1) := by decide +kernel
theorem dX7_set_18 : decode cX7_set 18 = .ok (.invokevirtual 64, 3) := by decide +kernel
theorem dX7_set_21 : decode cX7_set 21 = .ok (.invokevirtual 47, 3) := by decide +kernel
theorem dX7_set_24 : decode cX7_set 24 = .ok (.ireturn, 1) := by decide +kernel
theorem dX7_type_0 : decode cX7_type 0 = .ok (.aload_n 0, 1) := by decide +kernel
theorem dX7_type_1 : decode cX7_type 1 = .ok (.getfield 35, 3) := by decide +kernel
theorem dX7_type_4 : decode cX7_type 4 = .ok (.iload_n 1, 1) := by decide +kernel
theorem dX7_type_5 : decode cX7_type 5 = .ok (.invokevirtual 67, 3) := by decide +kernel
theorem dX7_type_8 : decode cX7_type 8 = .ok (.ireturn, 1) := by decide +kernel
theorem dX7_clearText_0 : decode cX7_clearText 0 = .ok (.aload_n 0, 1) := by decide +kernel
theorem dX7_clearText_1 : decode cX7_clearText 1 = .ok (.getfield 35, 3) := by decide +kernel
theorem dX7_clearText_4 : decode cX7_clearText 4 = .ok (.invokevirtual 71, 3) := by decide +kernel
theorem dX7_clearText_7 : decode cX7_clearText 7 = .ok (.ireturn, 1) := by decide +kernel
theorem dX7_perform_0 : decode cX7_perform 0 = .ok (.aload_n 0, 1) := by decide +kernel
theorem dX7_perform_1 : decode cX7_perform 1 = .ok (.getfield 35, 3) := by decide +kernel
theorem dX7_perform_4 : decode cX7_perform 4 = .ok (.invokevirtual 75, 3) := by decide +kernel
theorem dX7_perform_7 : decode cX7_perform 7 = .ok (.istore_n 1, 1) := by decide +kernel
theorem dX7_perform_8 : decode cX7_perform 8 = .ok (.iload_n 1, 1) := by decide +kernel
theorem dX7_perform_9 : decode cX7_perform 9 = .ok (.iconst (-1), 1) := by decide +kernel
theorem dX7_perform_10 : decode cX7_perform 10 = .ok (.if_icmp .eq 8, 3) := by decide +kernel
theorem dX7_perform_13 : decode cX7_perform 13 = .ok (.bipush (-100), 2) := by decide +kernel
theorem dX7_perform_15 : decode cX7_perform 15 = .ok (.iload_n 1, 1) := by decide +kernel
theorem dX7_perform_16 : decode cX7_perform 16 = .ok (.isub, 1) := by decide +kernel
theorem dX7_perform_17 : decode cX7_perform 17 = .ok (.ireturn, 1) := by decide +kernel
theorem dX7_perform_18 : decode cX7_perform 18 = .ok (.aload_n 0, 1) := by decide +kernel
theorem dX7_perform_19 : decode cX7_perform 19 = .ok (.getfield 16, 3) := by decide +kernel
theorem dX7_perform_22 : decode cX7_perform 22 = .ok (.aload_n 0, 1) := by decide +kernel
theorem dX7_perform_23 : decode cX7_perform 23 = .ok (.getfield 12, 3) := by decide +kernel
theorem dX7_perform_26 : decode cX7_perform 26 = .ok (.invokevirtual 39, 3) := by decide +kernel
theorem dX7_perform_29 : decode cX7_perform 29 = .ok (.iconst 0, 1) := by decide +kernel
theorem dX7_perform_30 : decode cX7_perform 30 = .ok (.istore_n 2, 1) := by decide +kernel
theorem dX7_perform_31 : decode cX7_perform 31 = .ok (.iload_n 2, 1) := by decide +kernel
theorem dX7_perform_32 : decode cX7_perform 32 = .ok (.aload_n 0, 1) := by decide +kernel
theorem dX7_perform_33 : decode cX7_perform 33 = .ok (.getfield 35, 3) := by decide +kernel
theorem dX7_perform_36 : decode cX7_perform 36 = .ok (.getfield 78, 3) := by decide +kernel
theorem dX7_perform_39 : decode cX7_perform 39 = .ok (.if_icmp .ge 49, 3) := by decide +kernel
theorem dX7_perform_42 : decode cX7_perform 42 = .ok (.aload_n 0, 1) := by decide +kernel
theorem dX7_perform_43 : decode cX7_perform 43 = .ok (.iload_n 2, 1) := by decide +kernel
theorem dX7_perform_44 : decode cX7_perform 44 = .ok (.invokevirtual 82, 3) := by decide +kernel
theorem dX7_perform_47 : decode cX7_perform 47 = .ok (.istore_n 3, 1) := by decide +kernel
theorem dX7_perform_48 : decode cX7_perform 48 = .ok (.iload_n 3, 1) := by decide +kernel
theorem dX7_perform_49 : decode cX7_perform 49 = .ok (.ifCond .ge 33, 3) := by decide +kernel
theorem dX7_perform_52 : decode cX7_perform 52 = .ok (.iload_n 3, 1) := by decide +kernel
theorem dX7_perform_53 : decode cX7_perform 53 = .ok (.bipush (-5), 2) := by decide +kernel
theorem dX7_perform_55 : decode cX7_perform 55 = .ok (.if_icmp .eq 27, 3) := by decide +kernel
theorem dX7_perform_58 : decode cX7_perform 58 = .ok (.aload_n 0, 1) := by decide +kernel
theorem dX7_perform_59 : decode cX7_perform 59 = .ok (.getfield 12, 3) := by decide +kernel
theorem dX7_perform_62 : decode cX7_perform 62 = .ok (.aload_n 0, 1) := by decide +kernel
theorem dX7_perform_63 : decode cX7_perform 63 = .ok (.getfield 16, 3) := by decide +kernel
theorem dX7_perform_66 : decode cX7_perform 66 = .ok (.invokevirtual 39, 3) := by decide +kernel
theorem dX7_perform_69 : decode cX7_perform 69 = .ok (.aload_n 0, 1) := by decide +kernel
theorem dX7_perform_70 : decode cX7_perform 70 = .ok (.iload_n 2, 1) := by decide +kernel
theorem dX7_perform_71 : decode cX7_perform 71 = .ok (.putfield 85, 3) := by decide +kernel
theorem dX7_perform_74 : decode cX7_perform 74 = .ok (.aload_n 0, 1) := by decide +kernel
theorem dX7_perform_75 : decode cX7_perform 75 = .ok (.iload_n 3, 1) := by decide +kernel
theorem dX7_perform_76 : decode cX7_perform 76 = .ok (.putfield 88, 3) := by decide +kernel
theorem dX7_perform_79 : decode cX7_perform 79 = .ok (.bipush (-4), 2) := by decide +kernel
theorem dX7_perform_81 : decode cX7_perform 81 = .ok (.ireturn, 1) := by decide +kernel
theorem dX7_perform_82 : decode cX7_perform 82 = .ok (.iinc 2 1, 3) := by decide +kernel
theorem dX7_perform_85 : decode cX7_perform 85 = .ok (.goto (-54), 3) := by decide +kernel
theorem dX7_perform_88 : decode cX7_perform 88 = .ok (.aload_n 0, 1) := by decide +kernel
theorem dX7_perform_89 : decode cX7_perform 89 = .ok (.aload_n 0, 1) := by decide +kernel
theorem dX7_perform_90 : decode cX7_perform 90 = .ok (.getfield 35, 3) := by decide +kernel
theorem dX7_perform_93 : decode cX7_perform 93 = .ok (.getfield 78, 3) := by decide +kernel
theorem dX7_perform_96 : decode cX7_perform 96 = .ok (.invokevirtual 47, 3) := by decide +kernel
theorem dX7_perform_99 : decode cX7_perform 99 = .ok (.ireturn, 1) := by decide +kernel
theorem dX7_stopped_0 : decode cX7_stopped 0 = .ok (.iload_n 1, 1) := by decide +kernel
theorem dX7_stopped_1 : decode cX7_stopped 1 = .ok (.ifCond .lt 8, 3) := by decide +kernel
theorem dX7_stopped_4 : decode cX7_stopped 4 = .ok (.iload_n 1, 1) := by decide +kernel
theorem dX7_stopped_5 : decode cX7_stopped 5 = .ok (.iconst 1, 1) := by decide +kernel
theorem dX7_stopped_6 : decode cX7_stopped 6 = .ok (.if_icmp .le 6, 3) := by decide +kernel
theorem dX7_stopped_9 : decode cX7_stopped 9 = .ok (.bipush (-2), 2) := by decide +kernel
theorem dX7_stopped_11 : decode cX7_stopped 11 = .ok (.ireturn, 1) := by decide +kernel
theorem dX7_stopped_12 : decode cX7_stopped 12 = .ok (.aload_n 0, 1) := by decide +kernel
theorem dX7_stopped_13 : decode cX7_stopped 13 = .ok (.getfield 88, 3) := by decide +kernel
theorem dX7_stopped_16 : decode cX7_stopped 16 = .ok (.ifCond .ne 6, 3) := by decide +kernel
theorem dX7_stopped_19 : decode cX7_stopped 19 = .ok (.bipush (-5), 2) := by decide +kernel
theorem dX7_stopped_21 : decode cX7_stopped 21 = .ok (.ireturn, 1) := by decide +kernel
theorem dX7_stopped_22 : decode cX7_stopped 22 = .ok (.iload_n 1, 1) := by decide +kernel
theorem dX7_stopped_23 : decode cX7_stopped 23 = .ok (.ifCond .ne 10, 3) := by decide +kernel
theorem dX7_stopped_26 : decode cX7_stopped 26 = .ok (.aload_n 0, 1) := by decide +kernel
theorem dX7_stopped_27 : decode cX7_stopped 27 = .ok (.getfield 85, 3) := by decide +kernel
theorem dX7_stopped_30 : decode cX7_stopped 30 = .ok (.goto 7, 3) := by decide +kernel
theorem dX7_stopped_33 : decode cX7_stopped 33 = .ok (.aload_n 0, 1) := by decide +kernel
theorem dX7_stopped_34 : decode cX7_stopped 34 = .ok (.getfield 88, 3) := by decide +kernel
theorem dX7_stopped_37 : decode cX7_stopped 37 = .ok (.ireturn, 1) := by decide +kernel
theorem dX7_undo_0 : decode cX7_undo 0 = .ok (.aload_n 0, 1) := by decide +kernel
theorem dX7_undo_1 : decode cX7_undo 1 = .ok (.getfield 28, 3) := by decide +kernel
theorem dX7_undo_4 : decode cX7_undo 4 = .ok (.aload_n 0, 1) := by decide +kernel
theorem dX7_undo_5 : decode cX7_undo 5 = .ok (.getfield 12, 3) := by decide +kernel
theorem dX7_undo_8 : decode cX7_undo 8 = .ok (.invokevirtual 91, 3) := by decide +kernel
theorem dX7_undo_11 : decode cX7_undo 11 = .ok (.ireturn, 1) := by decide +kernel
theorem dX7_keep_0 : decode cX7_keep 0 = .ok (.aload_n 0, 1) := by decide +kernel
theorem dX7_keep_1 : decode cX7_keep 1 = .ok (.getfield 22, 3) := by decide +kernel
theorem dX7_keep_4 : decode cX7_keep 4 = .ok (.aload_n 0, 1) := by decide +kernel
theorem dX7_keep_5 : decode cX7_keep 5 = .ok (.getfield 12, 3) := by decide +kernel
theorem dX7_keep_8 : decode cX7_keep 8 = .ok (.invokevirtual 39, 3) := by decide +kernel
theorem dX7_keep_11 : decode cX7_keep 11 = .ok (.aload_n 0, 1) := by decide +kernel
theorem dX7_keep_12 : decode cX7_keep 12 = .ok (.iconst 1, 1) := by decide +kernel
theorem dX7_keep_13 : decode cX7_keep 13 = .ok (.putfield 95, 3) := by decide +kernel
theorem dX7_keep_16 : decode cX7_keep 16 = .ok (.aload_n 0, 1) := by decide +kernel
theorem dX7_keep_17 : decode cX7_keep 17 = .ok (.getfield 12, 3) := by decide +kernel
theorem dX7_keep_20 : decode cX7_keep 20 = .ok (.getfield 99, 3) := by decide +kernel
theorem dX7_keep_23 : decode cX7_keep 23 = .ok (.invokevirtual 103, 3) := by decide +kernel
theorem dX7_keep_26 : decode cX7_keep 26 = .ok (.ireturn, 1) := by decide +kernel
theorem dX7_restore_0 : decode cX7_restore 0 = .ok (.aload_n 0, 1) := by decide +kernel
theorem dX7_restore_1 : decode cX7_restore 1 = .ok (.getfield 95, 3) := by decide +kernel
theorem dX7_restore_4 : decode cX7_restore 4 = .ok (.ifCond .ne 6, 3) := by decide +kernel
theorem dX7_restore_7 : decode cX7_restore 7 = .ok (.bipush (-5), 2) := by decide +kernel
theorem dX7_restore_9 : decode cX7_restore 9 = .ok (.ireturn, 1) := by decide +kernel
theorem dX7_restore_10 : decode cX7_restore 10 = .ok (.aload_n 0, 1) := by decide +kernel
theorem dX7_restore_11 : decode cX7_restore 11 = .ok (.getfield 16, 3) := by decide +kernel
theorem dX7_restore_14 : decode cX7_restore 14 = .ok (.aload_n 0, 1) := by decide +kernel
theorem dX7_restore_15 : decode cX7_restore 15 = .ok (.getfield 12, 3) := by decide +kernel
theorem dX7_restore_18 : decode cX7_restore 18 = .ok (.invokevirtual 39, 3) := by decide +kernel
theorem dX7_restore_21 : decode cX7_restore 21 = .ok (.aload_n 0, 1) := by decide +kernel
theorem dX7_restore_22 : decode cX7_restore 22 = .ok (.getfield 12, 3) := by decide +kernel
theorem dX7_restore_25 : decode cX7_restore 25 = .ok (.aload_n 0, 1) := by decide +kernel
theorem dX7_restore_26 : decode cX7_restore 26 = .ok (.getfield 22, 3) := by decide +kernel
theorem dX7_restore_29 : decode cX7_restore 29 = .ok (.invokevirtual 39, 3) := by decide +kernel
theorem dX7_restore_32 : decode cX7_restore 32 = .ok (.aload_n 0, 1) := by decide +kernel
theorem dX7_restore_33 : decode cX7_restore 33 = .ok (.aload_n 0, 1) := by decide +kernel
theorem dX7_restore_34 : decode cX7_restore 34 = .ok (.getfield 12, 3) := by decide +kernel
theorem dX7_restore_37 : decode cX7_restore 37 = .ok (.getfield 99, 3) := by decide +kernel
theorem dX7_restore_40 : decode cX7_restore 40 = .ok (.invokevirtual 103, 3) := by decide +kernel
theorem dX7_restore_43 : decode cX7_restore 43 = .ok (.invokevirtual 47, 3) := by decide +kernel
theorem dX7_restore_46 : decode cX7_restore 46 = .ok (.ireturn, 1) := by decide +kernel
theorem dX7_drone_0 : decode cX7_drone 0 = .ok (.aload_n 0, 1) := by decide +kernel
theorem dX7_drone_1 : decode cX7_drone 1 = .ok (.getfield 12, 3) := by decide +kernel
theorem dX7_drone_4 : decode cX7_drone 4 = .ok (.getfield 108, 3) := by decide +kernel
theorem dX7_drone_7 : decode cX7_drone 7 = .ok (.astore_n 3, 1) := by decide +kernel
theorem dX7_drone_8 : decode cX7_drone 8 = .ok (.aload_n 3, 1) := by decide +kernel
theorem dX7_drone_9 : decode cX7_drone 9 = .ok (.iload_n 1, 1) := by decide +kernel
theorem dX7_drone_10 : decode cX7_drone 10 = .ok (.invokevirtual 112, 3) := by decide +kernel
theorem dX7_drone_13 : decode cX7_drone 13 = .ok (.ifCond .ne 5, 3) := by decide +kernel
theorem dX7_drone_16 : decode cX7_drone 16 = .ok (.iconst (-1), 1) := by decide +kernel
theorem dX7_drone_17 : decode cX7_drone 17 = .ok (.ireturn, 1) := by decide +kernel
theorem dX7_drone_18 : decode cX7_drone 18 = .ok (.iload_n 2, 1) := by decide +kernel
theorem dX7_drone_19 : decode cX7_drone 19 = .ok (.tableswitch 100 0 6 #[41, 48, 55, 67, 79, 86, 93], 41) := by decide +kernel
theorem dX7_drone_60 : decode cX7_drone 60 = .ok (.aload_n 3, 1) := by decide +kernel
theorem dX7_drone_61 : decode cX7_drone 61 = .ok (.getfield 118, 3) := by decide +kernel
theorem dX7_drone_64 : decode cX7_drone 64 = .ok (.iload_n 1, 1) := by decide +kernel
theorem dX7_drone_65 : decode cX7_drone 65 = .ok (.iaload, 1) := by decide +kernel
theorem dX7_drone_66 : decode cX7_drone 66 = .ok (.ireturn, 1) := by decide +kernel
theorem dX7_drone_67 : decode cX7_drone 67 = .ok (.aload_n 3, 1) := by decide +kernel
theorem dX7_drone_68 : decode cX7_drone 68 = .ok (.getfield 122, 3) := by decide +kernel
theorem dX7_drone_71 : decode cX7_drone 71 = .ok (.iload_n 1, 1) := by decide +kernel
theorem dX7_drone_72 : decode cX7_drone 72 = .ok (.iaload, 1) := by decide +kernel
theorem dX7_drone_73 : decode cX7_drone 73 = .ok (.ireturn, 1) := by decide +kernel
theorem dX7_drone_74 : decode cX7_drone 74 = .ok (.aload_n 0, 1) := by decide +kernel
theorem dX7_drone_75 : decode cX7_drone 75 = .ok (.getfield 12, 3) := by decide +kernel
theorem dX7_drone_78 : decode cX7_drone 78 = .ok (.getfield 125, 3) := by decide +kernel
theorem dX7_drone_81 : decode cX7_drone 81 = .ok (.iload_n 1, 1) := by decide +kernel
theorem dX7_drone_82 : decode cX7_drone 82 = .ok (.invokevirtual 129, 3) := by decide +kernel
theorem dX7_drone_85 : decode cX7_drone 85 = .ok (.ireturn, 1) := by decide +kernel
theorem dX7_drone_86 : decode cX7_drone 86 = .ok (.aload_n 0, 1) := by decide +kernel
theorem dX7_drone_87 : decode cX7_drone 87 = .ok (.getfield 12, 3) := by decide +kernel
theorem dX7_drone_90 : decode cX7_drone 90 = .ok (.getfield 125, 3) := by decide +kernel
theorem dX7_drone_93 : decode cX7_drone 93 = .ok (.iload_n 1, 1) := by decide +kernel
theorem dX7_drone_94 : decode cX7_drone 94 = .ok (.invokevirtual 134, 3) := by decide +kernel
theorem dX7_drone_97 : decode cX7_drone 97 = .ok (.ireturn, 1) := by decide +kernel
theorem dX7_drone_98 : decode cX7_drone 98 = .ok (.aload_n 3, 1) := by decide +kernel
theorem dX7_drone_99 : decode cX7_drone 99 = .ok (.getfield 137, 3) := by decide +kernel
theorem dX7_drone_102 : decode cX7_drone 102 = .ok (.iload_n 1, 1) := by decide +kernel
theorem dX7_drone_103 : decode cX7_drone 103 = .ok (.iaload, 1) := by decide +kernel
theorem dX7_drone_104 : decode cX7_drone 104 = .ok (.ireturn, 1) := by decide +kernel
theorem dX7_drone_105 : decode cX7_drone 105 = .ok (.aload_n 3, 1) := by decide +kernel
theorem dX7_drone_106 : decode cX7_drone 106 = .ok (.getfield 140, 3) := by decide +kernel
theorem dX7_drone_109 : decode cX7_drone 109 = .ok (.iload_n 1, 1) := by decide +kernel
theorem dX7_drone_110 : decode cX7_drone 110 = .ok (.iaload, 1) := by decide +kernel
theorem dX7_drone_111 : decode cX7_drone 111 = .ok (.ireturn, 1) := by decide +kernel
theorem dX7_drone_112 : decode cX7_drone 112 = .ok (.aload_n 3, 1) := by decide +kernel
theorem dX7_drone_113 : decode cX7_drone 113 = .ok (.getfield 143, 3) := by decide +kernel
theorem dX7_drone_116 : decode cX7_drone 116 = .ok (.iload_n 1, 1) := by decide +kernel
theorem dX7_drone_117 : decode cX7_drone 117 = .ok (.iaload, 1) := by decide +kernel
theorem dX7_drone_118 : decode cX7_drone 118 = .ok (.ireturn, 1) := by decide +kernel
theorem dX7_drone_119 : decode cX7_drone 119 = .ok (.bipush (-2), 2) := by decide +kernel
theorem dX7_drone_121 : decode cX7_drone 121 = .ok (.ireturn, 1) := by decide +kernel
theorem dX7_bylaw_0 : decode cX7_bylaw 0 = .ok (.iload_n 1, 1) := by decide +kernel
theorem dX7_bylaw_1 : decode cX7_bylaw 1 = .ok (.ifCond .lt 12, 3) := by decide +kernel
theorem dX7_bylaw_4 : decode cX7_bylaw 4 = .ok (.iload_n 2, 1) := by decide +kernel
theorem dX7_bylaw_5 : decode cX7_bylaw 5 = .ok (.ifCond .lt 8, 3) := by decide +kernel
theorem dX7_bylaw_8 : decode cX7_bylaw 8 = .ok (.iload_n 2, 1) := by decide +kernel
theorem dX7_bylaw_9 : decode cX7_bylaw 9 = .ok (.iconst 5, 1) := by decide +kernel
theorem dX7_bylaw_10 : decode cX7_bylaw 10 = .ok (.if_icmp .le 6, 3) := by decide +kernel
theorem dX7_bylaw_13 : decode cX7_bylaw 13 = .ok (.bipush (-2), 2) := by decide +kernel
theorem dX7_bylaw_15 : decode cX7_bylaw 15 = .ok (.ireturn, 1) := by decide +kernel
theorem dX7_bylaw_16 : decode cX7_bylaw 16 = .ok (.aload_n 0, 1) := by decide +kernel
theorem dX7_bylaw_17 : decode cX7_bylaw 17 = .ok (.getfield 12, 3) := by decide +kernel
theorem dX7_bylaw_20 : decode cX7_bylaw 20 = .ok (.getfield 99, 3) := by decide +kernel
theorem dX7_bylaw_23 : decode cX7_bylaw 23 = .ok (.astore_n 3, 1) := by decide +kernel
theorem dX7_bylaw_24 : decode cX7_bylaw 24 = .ok (.aload_n 3, 1) := by decide +kernel
theorem dX7_bylaw_25 : decode cX7_bylaw 25 = .ok (.iload_n 1, 1) := by decide +kernel
theorem dX7_bylaw_26 : decode cX7_bylaw 26 = .ok (.invokevirtual 146, 3) := by decide +kernel
theorem dX7_bylaw_29 : decode cX7_bylaw 29 = .ok (.istore 4, 2) := by decide +kernel
theorem dX7_bylaw_31 : decode cX7_bylaw 31 = .ok (.iload 4, 2) := by decide +kernel
theorem dX7_bylaw_33 : decode cX7_bylaw 33 = .ok (.bipush (-5), 2) := by decide +kernel
theorem dX7_bylaw_35 : decode cX7_bylaw 35 = .ok (.if_icmp .ne 6, 3) := by decide +kernel
theorem dX7_bylaw_38 : decode cX7_bylaw 38 = .ok (.bipush (-5), 2) := by decide +kernel
theorem dX7_bylaw_40 : decode cX7_bylaw 40 = .ok (.ireturn, 1) := by decide +kernel
theorem dX7_bylaw_41 : decode cX7_bylaw 41 = .ok (.iload_n 2, 1) := by decide +kernel
theorem dX7_bylaw_42 : decode cX7_bylaw 42 = .ok (.tableswitch 70 0 4 #[34, 40, 46, 54, 62], 34) := by decide +kernel
theorem dX7_bylaw_76 : decode cX7_bylaw 76 = .ok (.iload 4, 2) := by decide +kernel
theorem dX7_bylaw_78 : decode cX7_bylaw 78 = .ok (.bipush 20, 2) := by decide +kernel
theorem dX7_bylaw_80 : decode cX7_bylaw 80 = .ok (.idiv, 1) := by decide +kernel
theorem dX7_bylaw_81 : decode cX7_bylaw 81 = .ok (.ireturn, 1) := by decide +kernel
theorem dX7_bylaw_82 : decode cX7_bylaw 82 = .ok (.iload 4, 2) := by decide +kernel
theorem dX7_bylaw_84 : decode cX7_bylaw 84 = .ok (.bipush 20, 2) := by decide +kernel
theorem dX7_bylaw_86 : decode cX7_bylaw 86 = .ok (.irem, 1) := by decide +kernel
theorem dX7_bylaw_87 : decode cX7_bylaw 87 = .ok (.ireturn, 1) := by decide +kernel
theorem dX7_bylaw_88 : decode cX7_bylaw 88 = .ok (.aload_n 3, 1) := by decide +kernel
theorem dX7_bylaw_89 : decode cX7_bylaw 89 = .ok (.getfield 149, 3) := by decide +kernel
theorem dX7_bylaw_92 : decode cX7_bylaw 92 = .ok (.iload 4, 2) := by decide +kernel
theorem dX7_bylaw_94 : decode cX7_bylaw 94 = .ok (.iaload, 1) := by decide +kernel
theorem dX7_bylaw_95 : decode cX7_bylaw 95 = .ok (.ireturn, 1) := by decide +kernel
theorem dX7_bylaw_96 : decode cX7_bylaw 96 = .ok (.aload_n 3, 1) := by decide +kernel
theorem dX7_bylaw_97 : decode cX7_bylaw 97 = .ok (.getfield 152, 3) := by decide +kernel
theorem dX7_bylaw_100 : decode cX7_bylaw 100 = .ok (.iload 4, 2) := by decide +kernel
theorem dX7_bylaw_102 : decode cX7_bylaw 102 = .ok (.iaload, 1) := by decide +kernel
theorem dX7_bylaw_103 : decode cX7_bylaw 103 = .ok (.ireturn, 1) := by decide +kernel
theorem dX7_bylaw_104 : decode cX7_bylaw 104 = .ok (.aload_n 3, 1) := by decide +kernel
theorem dX7_bylaw_105 : decode cX7_bylaw 105 = .ok (.getfield 155, 3) := by decide +kernel
theorem dX7_bylaw_108 : decode cX7_bylaw 108 = .ok (.iload 4, 2) := by decide +kernel
theorem dX7_bylaw_110 : decode cX7_bylaw 110 = .ok (.iaload, 1) := by decide +kernel
theorem dX7_bylaw_111 : decode cX7_bylaw 111 = .ok (.ireturn, 1) := by decide +kernel
theorem dX7_bylaw_112 : decode cX7_bylaw 112 = .ok (.aload_n 0, 1) := by decide +kernel
theorem dX7_bylaw_113 : decode cX7_bylaw 113 = .ok (.getfield 12, 3) := by decide +kernel
theorem dX7_bylaw_116 : decode cX7_bylaw 116 = .ok (.getfield 108, 3) := by decide +kernel
theorem dX7_bylaw_119 : decode cX7_bylaw 119 = .ok (.iload 4, 2) := by decide +kernel
theorem dX7_bylaw_121 : decode cX7_bylaw 121 = .ok (.bipush 20, 2) := by decide +kernel
theorem dX7_bylaw_123 : decode cX7_bylaw 123 = .ok (.idiv, 1) := by decide +kernel
theorem dX7_bylaw_124 : decode cX7_bylaw 124 = .ok (.invokevirtual 158, 3) := by decide +kernel
theorem dX7_bylaw_127 : decode cX7_bylaw 127 = .ok (.ireturn, 1) := by decide +kernel
theorem dX7_petitionOf_0 : decode cX7_petitionOf 0 = .ok (.aload_n 0, 1) := by decide +kernel
theorem dX7_petitionOf_1 : decode cX7_petitionOf 1 = .ok (.getfield 12, 3) := by decide +kernel
theorem dX7_petitionOf_4 : decode cX7_petitionOf 4 = .ok (.getfield 125, 3) := by decide +kernel
theorem dX7_petitionOf_7 : decode cX7_petitionOf 7 = .ok (.astore_n 3, 1) := by decide +kernel
theorem dX7_petitionOf_8 : decode cX7_petitionOf 8 = .ok (.aload_n 3, 1) := by decide +kernel
theorem dX7_petitionOf_9 : decode cX7_petitionOf 9 = .ok (.iload_n 1, 1) := by decide +kernel
theorem dX7_petitionOf_10 : decode cX7_petitionOf 10 = .ok (.invokevirtual 161, 3) := by decide +kernel
theorem dX7_petitionOf_13 : decode cX7_petitionOf 13 = .ok (.ifCond .ne 5, 3) := by decide +kernel
theorem dX7_petitionOf_16 : decode cX7_petitionOf 16 = .ok (.iconst (-1), 1) := by decide +kernel
theorem dX7_petitionOf_17 : decode cX7_petitionOf 17 = .ok (.ireturn, 1) := by decide +kernel
theorem dX7_petitionOf_18 : decode cX7_petitionOf 18 = .ok (.iload_n 2, 1) := by decide +kernel
theorem dX7_petitionOf_19 : decode cX7_petitionOf 19 = .ok (.tableswitch 79 0 5 #[37, 44, 51, 58, 65, 72], 37) := by decide +kernel
theorem dX7_petitionOf_56 : decode cX7_petitionOf 56 = .ok (.aload_n 3, 1) := by decide +kernel
theorem dX7_petitionOf_57 : decode cX7_petitionOf 57 = .ok (.getfield 164, 3) := by decide +kernel
theorem dX7_petitionOf_60 : decode cX7_petitionOf 60 = .ok (.iload_n 1, 1) := by decide +kernel
theorem dX7_petitionOf_61 : decode cX7_petitionOf 61 = .ok (.iaload, 1) := by decide +kernel
theorem dX7_petitionOf_62 : decode cX7_petitionOf 62 = .ok (.ireturn, 1) := by decide +kernel
theorem dX7_petitionOf_63 : decode cX7_petitionOf 63 = .ok (.aload_n 3, 1) := by decide +kernel
theorem dX7_petitionOf_64 : decode cX7_petitionOf 64 = .ok (.getfield 167, 3) := by decide +kernel
theorem dX7_petitionOf_67 : decode cX7_petitionOf 67 = .ok (.iload_n 1, 1) := by decide +kernel
theorem dX7_petitionOf_68 : decode cX7_petitionOf 68 = .ok (.iaload, 1) := by decide +kernel
theorem dX7_petitionOf_69 : decode cX7_petitionOf 69 = .ok (.ireturn, 1) := by decide +kernel
theorem dX7_petitionOf_70 : decode cX7_petitionOf 70 = .ok (.aload_n 3, 1) := by decide +kernel
theorem dX7_petitionOf_71 : decode cX7_petitionOf 71 = .ok (.getfield 170, 3) := by decide +kernel
theorem dX7_petitionOf_74 : decode cX7_petitionOf 74 = .ok (.iload_n 1, 1) := by decide +kernel
theorem dX7_petitionOf_75 : decode cX7_petitionOf 75 = .ok (.iaload, 1) := by decide +kernel
theorem dX7_petitionOf_76 : decode cX7_petitionOf 76 = .ok (.ireturn, 1) := by decide +kernel
theorem dX7_petitionOf_77 : decode cX7_petitionOf 77 = .ok (.aload_n 3, 1) := by decide +kernel
theorem dX7_petitionOf_78 : decode cX7_petitionOf 78 = .ok (.getfield 173, 3) := by decide +kernel
theorem dX7_petitionOf_81 : decode cX7_petitionOf 81 = .ok (.iload_n 1, 1) := by decide +kernel
theorem dX7_petitionOf_82 : decode cX7_petitionOf 82 = .ok (.iaload, 1) := by decide +kernel
theorem dX7_petitionOf_83 : decode cX7_petitionOf 83 = .ok (.ireturn, 1) := by decide +kernel
theorem dX7_petitionOf_84 : decode cX7_petitionOf 84 = .ok (.aload_n 3, 1) := by decide +kernel
theorem dX7_petitionOf_85 : decode cX7_petitionOf 85 = .ok (.getfield 176, 3) := by decide +kernel
theorem dX7_petitionOf_88 : decode cX7_petitionOf 88 = .ok (.iload_n 1, 1) := by decide +kernel
theorem dX7_petitionOf_89 : decode cX7_petitionOf 89 = .ok (.iaload, 1) := by decide +kernel
theorem dX7_petitionOf_90 : decode cX7_petitionOf 90 = .ok (.ireturn, 1) := by decide +kernel
theorem dX7_petitionOf_91 : decode cX7_petitionOf 91 = .ok (.aload_n 3, 1) := by decide +kernel
theorem dX7_petitionOf_92 : decode cX7_petitionOf 92 = .ok (.getfield 179, 3) := by decide +kernel
theorem dX7_petitionOf_95 : decode cX7_petitionOf 95 = .ok (.iload_n 1, 1) := by decide +kernel
theorem dX7_petitionOf_96 : decode cX7_petitionOf 96 = .ok (.iaload, 1) := by decide +kernel
theorem dX7_petitionOf_97 : decode cX7_petitionOf 97 = .ok (.ireturn, 1) := by decide +kernel
theorem dX7_petitionOf_98 : decode cX7_petitionOf 98 = .ok (.bipush (-2), 2) := by decide +kernel
theorem dX7_petitionOf_100 : decode cX7_petitionOf 100 = .ok (.ireturn, 1) := by decide +kernel
theorem dX7_heard_0 : decode cX7_heard 0 = .ok (.iload_n 1, 1) := by decide +kernel
theorem dX7_heard_1 : decode cX7_heard 1 = .ok (.ifCond .ge 8, 3) := by decide +kernel
theorem dX7_heard_4 : decode cX7_heard 4 = .ok (.bipush (-2), 2) := by decide +kernel
theorem dX7_heard_6 : decode cX7_heard 6 = .ok (.goto 14, 3) := by decide +kernel
theorem dX7_heard_9 : decode cX7_heard 9 = .ok (.aload_n 0, 1) := by decide +kernel
theorem dX7_heard_10 : decode cX7_heard 10 = .ok (.getfield 12, 3) := by decide +kernel
theorem dX7_heard_13 : decode cX7_heard 13 = .ok (.getfield 125, 3) := by decide +kernel
theorem dX7_heard_16 : decode cX7_heard 16 = .ok (.iload_n 1, 1) := by decide +kernel
theorem dX7_heard_17 : decode cX7_heard 17 = .ok (.invokevirtual 182, 3) := by decide +kernel
theorem dX7_heard_20 : decode cX7_heard 20 = .ok (.ireturn, 1) := by decide +kernel
theorem dX7_rule_0 : decode cX7_rule 0 = .ok (.iload_n 1, 1) := by decide +kernel
theorem dX7_rule_1 : decode cX7_rule 1 = .ok (.invokestatic 185, 3) := by decide +kernel
theorem dX7_rule_4 : decode cX7_rule 4 = .ok (.ifCond .eq 10, 3) := by decide +kernel
theorem dX7_rule_7 : decode cX7_rule 7 = .ok (.iload_n 2, 1) := by decide +kernel
theorem dX7_rule_8 : decode cX7_rule 8 = .ok (.invokestatic 188, 3) := by decide +kernel
theorem dX7_rule_11 : decode cX7_rule 11 = .ok (.ifCond .ne 5, 3) := by decide +kernel
theorem dX7_rule_14 : decode cX7_rule 14 = .ok (.iconst (-1), 1) := by decide +kernel
theorem dX7_rule_15 : decode cX7_rule 15 = .ok (.ireturn, 1) := by decide +kernel
theorem dX7_rule_16 : decode cX7_rule 16 = .ok (.iload_n 3, 1) := by decide +kernel
theorem dX7_rule_17 : decode cX7_rule 17 = .ok (.ifCond .lt 8, 3) := by decide +kernel
theorem dX7_rule_20 : decode cX7_rule 20 = .ok (.iload_n 3, 1) := by decide +kernel
theorem dX7_rule_21 : decode cX7_rule 21 = .ok (.iconst 2, 1) := by decide +kernel
theorem dX7_rule_22 : decode cX7_rule 22 = .ok (.if_icmp .le 6, 3) := by decide +kernel
theorem dX7_rule_25 : decode cX7_rule 25 = .ok (.bipush (-2), 2) := by decide +kernel
theorem dX7_rule_27 : decode cX7_rule 27 = .ok (.ireturn, 1) := by decide +kernel
theorem dX7_rule_28 : decode cX7_rule 28 = .ok (.aload_n 0, 1) := by decide +kernel
theorem dX7_rule_29 : decode cX7_rule 29 = .ok (.getfield 12, 3) := by decide +kernel
theorem dX7_rule_32 : decode cX7_rule 32 = .ok (.getfield 99, 3) := by decide +kernel
theorem dX7_rule_35 : decode cX7_rule 35 = .ok (.iload_n 1, 1) := by decide +kernel
theorem dX7_rule_36 : decode cX7_rule 36 = .ok (.iload_n 2, 1) := by decide +kernel
theorem dX7_rule_37 : decode cX7_rule 37 = .ok (.invokevirtual 191, 3) := by decide +kernel
theorem dX7_rule_40 : decode cX7_rule 40 = .ok (.istore 4, 2) := by decide +kernel
theorem dX7_rule_42 : decode cX7_rule 42 = .ok (.iload_n 3, 1) := by decide +kernel
theorem dX7_rule_43 : decode cX7_rule 43 = .ok (.ifCond .ne 24, 3) := by decide +kernel
theorem dX7_rule_46 : decode cX7_rule 46 = .ok (.aload_n 0, 1) := by decide +kernel
theorem dX7_rule_47 : decode cX7_rule 47 = .ok (.getfield 12, 3) := by decide +kernel
theorem dX7_rule_50 : decode cX7_rule 50 = .ok (.getfield 99, 3) := by decide +kernel
theorem dX7_rule_53 : decode cX7_rule 53 = .ok (.iload_n 1, 1) := by decide +kernel
theorem dX7_rule_54 : decode cX7_rule 54 = .ok (.iload_n 2, 1) := by decide +kernel
theorem dX7_rule_55 : decode cX7_rule 55 = .ok (.invokevirtual 194, 3) := by decide +kernel
theorem dX7_rule_58 : decode cX7_rule 58 = .ok (.ifCond .eq 7, 3) := by decide +kernel
theorem dX7_rule_61 : decode cX7_rule 61 = .ok (.iconst 0, 1) := by decide +kernel
theorem dX7_rule_62 : decode cX7_rule 62 = .ok (.goto 4, 3) := by decide +kernel
theorem dX7_rule_65 : decode cX7_rule 65 = .ok (.iconst 1, 1) := by decide +kernel
theorem dX7_rule_66 : decode cX7_rule 66 = .ok (.ireturn, 1) := by decide +kernel
theorem dX7_rule_67 : decode cX7_rule 67 = .ok (.iload_n 3, 1) := by decide +kernel
theorem dX7_rule_68 : decode cX7_rule 68 = .ok (.iconst 1, 1) := by decide +kernel
theorem dX7_rule_69 : decode cX7_rule 69 = .ok (.if_icmp .eq 10, 3) := by decide +kernel
theorem dX7_rule_72 : decode cX7_rule 72 = .ok (.iload 4, 2) := by decide +kernel
theorem dX7_rule_74 : decode cX7_rule 74 = .ok (.bipush (-5), 2) := by decide +kernel
theorem dX7_rule_76 : decode cX7_rule 76 = .ok (.if_icmp .ne 6, 3) := by decide +kernel
theorem dX7_rule_79 : decode cX7_rule 79 = .ok (.iload 4, 2) := by decide +kernel
theorem dX7_rule_81 : decode cX7_rule 81 = .ok (.ireturn, 1) := by decide +kernel
theorem dX7_rule_82 : decode cX7_rule 82 = .ok (.aload_n 0, 1) := by decide +kernel
theorem dX7_rule_83 : decode cX7_rule 83 = .ok (.getfield 12, 3) := by decide +kernel
theorem dX7_rule_86 : decode cX7_rule 86 = .ok (.getfield 99, 3) := by decide +kernel
theorem dX7_rule_89 : decode cX7_rule 89 = .ok (.iload 4, 2) := by decide +kernel
theorem dX7_rule_91 : decode cX7_rule 91 = .ok (.iload_n 2, 1) := by decide +kernel
theorem dX7_rule_92 : decode cX7_rule 92 = .ok (.invokevirtual 198, 3) := by decide +kernel
theorem dX7_rule_95 : decode cX7_rule 95 = .ok (.ireturn, 1) := by decide +kernel
theorem dX7_reason_0 : decode cX7_reason 0 = .ok (.aload_n 0, 1) := by decide +kernel
theorem dX7_reason_1 : decode cX7_reason 1 = .ok (.getfield 12, 3) := by decide +kernel
theorem dX7_reason_4 : decode cX7_reason 4 = .ok (.getfield 125, 3) := by decide +kernel
theorem dX7_reason_7 : decode cX7_reason 7 = .ok (.iload_n 1, 1) := by decide +kernel
theorem dX7_reason_8 : decode cX7_reason 8 = .ok (.invokevirtual 161, 3) := by decide +kernel
theorem dX7_reason_11 : decode cX7_reason 11 = .ok (.ifCond .ne 5, 3) := by decide +kernel
theorem dX7_reason_14 : decode cX7_reason 14 = .ok (.iconst (-1), 1) := by decide +kernel
theorem dX7_reason_15 : decode cX7_reason 15 = .ok (.ireturn, 1) := by decide +kernel
theorem dX7_reason_16 : decode cX7_reason 16 = .ok (.aload_n 0, 1) := by decide +kernel
theorem dX7_reason_17 : decode cX7_reason 17 = .ok (.getfield 19, 3) := by decide +kernel
theorem dX7_reason_20 : decode cX7_reason 20 = .ok (.aload_n 0, 1) := by decide +kernel
theorem dX7_reason_21 : decode cX7_reason 21 = .ok (.getfield 12, 3) := by decide +kernel
theorem dX7_reason_24 : decode cX7_reason 24 = .ok (.invokevirtual 39, 3) := by decide +kernel
theorem dX7_reason_27 : decode cX7_reason 27 = .ok (.aload_n 0, 1) := by decide +kernel
theorem dX7_reason_28 : decode cX7_reason 28 = .ok (.getfield 19, 3) := by decide +kernel
theorem dX7_reason_31 : decode cX7_reason 31 = .ok (.invokevirtual 201, 3) := by decide +kernel
theorem dX7_reason_34 : decode cX7_reason 34 = .ok (.pop, 1) := by decide +kernel
theorem dX7_reason_35 : decode cX7_reason 35 = .ok (.aload_n 0, 1) := by decide +kernel
theorem dX7_reason_36 : decode cX7_reason 36 = .ok (.getfield 19, 3) := by decide +kernel
theorem dX7_reason_39 : decode cX7_reason 39 = .ok (.getfield 204, 3) := by decide +kernel
theorem dX7_reason_42 : decode cX7_reason 42 = .ok (.iload_n 1, 1) := by decide +kernel
theorem dX7_reason_43 : decode cX7_reason 43 = .ok (.iaload, 1) := by decide +kernel
theorem dX7_reason_44 : decode cX7_reason 44 = .ok (.ireturn, 1) := by decide +kernel
theorem dX7_wouldPass_0 : decode cX7_wouldPass 0 = .ok (.aload_n 0, 1) := by decide +kernel
theorem dX7_wouldPass_1 : decode cX7_wouldPass 1 = .ok (.getfield 19, 3) := by decide +kernel
theorem dX7_wouldPass_4 : decode cX7_wouldPass 4 = .ok (.aload_n 0, 1) := by decide +kernel
theorem dX7_wouldPass_5 : decode cX7_wouldPass 5 = .ok (.getfield 12, 3) := by decide +kernel
theorem dX7_wouldPass_8 : decode cX7_wouldPass 8 = .ok (.invokevirtual 39, 3) := by decide +kernel
theorem dX7_wouldPass_11 : decode cX7_wouldPass 11 = .ok (.aload_n 0, 1) := by decide +kernel
theorem dX7_wouldPass_12 : decode cX7_wouldPass 12 = .ok (.getfield 19, 3) := by decide +kernel
theorem dX7_wouldPass_15 : decode cX7_wouldPass 15 = .ok (.invokevirtual 201, 3) := by decide +kernel
theorem dX7_wouldPass_18 : decode cX7_wouldPass 18 = .ok (.pop, 1) := by decide +kernel
theorem dX7_wouldPass_19 : decode cX7_wouldPass 19 = .ok (.iconst 0, 1) := by decide +kernel
theorem dX7_wouldPass_20 : decode cX7_wouldPass 20 = .ok (.istore_n 1, 1) := by decide +kernel
theorem dX7_wouldPass_21 : decode cX7_wouldPass 21 = .ok (.iconst 0, 1) := by decide +kernel
theorem dX7_wouldPass_22 : decode cX7_wouldPass 22 = .ok (.istore_n 2, 1) := by decide +kernel
theorem dX7_wouldPass_23 : decode cX7_wouldPass 23 = .ok (.iload_n 2, 1) := by decide +kernel
theorem dX7_wouldPass_24 : decode cX7_wouldPass 24 = .ok (.aload_n 0, 1) := by decide +kernel
theorem dX7_wouldPass_25 : decode cX7_wouldPass 25 = .ok (.getfield 12, 3) := by decide +kernel
theorem dX7_wouldPass_28 : decode cX7_wouldPass 28 = .ok (.getfield 125, 3) := by decide +kernel
theorem dX7_wouldPass_31 : decode cX7_wouldPass 31 = .ok (.getfield 207, 3) := by decide +kernel
theorem dX7_wouldPass_34 : decode cX7_wouldPass 34 = .ok (.if_icmp .ge 27, 3) := by decide +kernel
theorem dX7_wouldPass_37 : decode cX7_wouldPass 37 = .ok (.aload_n 0, 1) := by decide +kernel
theorem dX7_wouldPass_38 : decode cX7_wouldPass 38 = .ok (.getfield 19, 3) := by decide +kernel
theorem dX7_wouldPass_41 : decode cX7_wouldPass 41 = .ok (.getfield 204, 3) := by decide +kernel
theorem dX7_wouldPass_44 : decode cX7_wouldPass 44 = .ok (.iload_n 2, 1) := by decide +kernel
theorem dX7_wouldPass_45 : decode cX7_wouldPass 45 = .ok (.iaload, 1) := by decide +kernel
theorem dX7_wouldPass_46 : decode cX7_wouldPass 46 = .ok (.ifCond .ne 9, 3) := by decide +kernel
theorem dX7_wouldPass_49 : decode cX7_wouldPass 49 = .ok (.iload_n 1, 1) := by decide +kernel
theorem dX7_wouldPass_50 : decode cX7_wouldPass 50 = .ok (.iconst 1, 1) := by decide +kernel
theorem dX7_wouldPass_51 : decode cX7_wouldPass 51 = .ok (.iload_n 2, 1) := by decide +kernel
theorem dX7_wouldPass_52 : decode cX7_wouldPass 52 = .ok (.ishl, 1) := by decide +kernel
theorem dX7_wouldPass_53 : decode cX7_wouldPass 53 = .ok (.ior, 1) := by decide +kernel
theorem dX7_wouldPass_54 : decode cX7_wouldPass 54 = .ok (.istore_n 1, 1) := by decide +kernel
theorem dX7_wouldPass_55 : decode cX7_wouldPass 55 = .ok (.iinc 2 1, 3) := by decide +kernel
theorem dX7_wouldPass_58 : decode cX7_wouldPass 58 = .ok (.goto (-35), 3) := by decide +kernel
theorem dX7_wouldPass_61 : decode cX7_wouldPass 61 = .ok (.iload_n 1, 1) := by decide +kernel
theorem dX7_wouldPass_62 : decode cX7_wouldPass 62 = .ok (.ireturn, 1) := by decide +kernel
theorem dX7_lacks_0 : decode cX7_lacks 0 = .ok (.aload_n 0, 1) := by decide +kernel
theorem dX7_lacks_1 : decode cX7_lacks 1 = .ok (.getfield 12, 3) := by decide +kernel
theorem dX7_lacks_4 : decode cX7_lacks 4 = .ok (.getfield 125, 3) := by decide +kernel
theorem dX7_lacks_7 : decode cX7_lacks 7 = .ok (.iload_n 1, 1) := by decide +kernel
theorem dX7_lacks_8 : decode cX7_lacks 8 = .ok (.invokevirtual 161, 3) := by decide +kernel
theorem dX7_lacks_11 : decode cX7_lacks 11 = .ok (.ifCond .ne 5, 3) := by decide +kernel
theorem dX7_lacks_14 : decode cX7_lacks 14 = .ok (.iconst (-1), 1) := by decide +kernel
theorem dX7_lacks_15 : decode cX7_lacks 15 = .ok (.ireturn, 1) := by decide +kernel
theorem dX7_lacks_16 : decode cX7_lacks 16 = .ok (.aload_n 0, 1) := by decide +kernel
theorem dX7_lacks_17 : decode cX7_lacks 17 = .ok (.getfield 12, 3) := by decide +kernel
theorem dX7_lacks_20 : decode cX7_lacks 20 = .ok (.getfield 125, 3) := by decide +kernel
theorem dX7_lacks_23 : decode cX7_lacks 23 = .ok (.getfield 176, 3) := by decide +kernel
theorem dX7_lacks_26 : decode cX7_lacks 26 = .ok (.iload_n 1, 1) := by decide +kernel
theorem dX7_lacks_27 : decode cX7_lacks 27 = .ok (.iaload, 1) := by decide +kernel
theorem dX7_lacks_28 : decode cX7_lacks 28 = .ok (.istore_n 2, 1) := by decide +kernel
theorem dX7_lacks_29 : decode cX7_lacks 29 = .ok (.iconst 0, 1) := by decide +kernel
theorem dX7_lacks_30 : decode cX7_lacks 30 = .ok (.istore_n 3, 1) := by decide +kernel
theorem dX7_lacks_31 : decode cX7_lacks 31 = .ok (.iload_n 3, 1) := by decide +kernel
theorem dX7_lacks_32 : decode cX7_lacks 32 = .ok (.bipush 120, 2) := by decide +kernel
theorem dX7_lacks_34 : decode cX7_lacks 34 = .ok (.if_icmp .gt 25, 3) := by decide +kernel
theorem dX7_lacks_37 : decode cX7_lacks 37 = .ok (.aload_n 0, 1) := by decide +kernel
theorem dX7_lacks_38 : decode cX7_lacks 38 = .ok (.getfield 12, 3) := by decide +kernel
theorem dX7_lacks_41 : decode cX7_lacks 41 = .ok (.iload_n 1, 1) := by decide +kernel
theorem dX7_lacks_42 : decode cX7_lacks 42 = .ok (.iload_n 2, 1) := by decide +kernel
theorem dX7_lacks_43 : decode cX7_lacks 43 = .ok (.iload_n 3, 1) := by decide +kernel
theorem dX7_lacks_44 : decode cX7_lacks 44 = .ok (.iadd, 1) := by decide +kernel
theorem dX7_lacks_45 : decode cX7_lacks 45 = .ok (.invokevirtual 209, 3) := by decide +kernel
theorem dX7_lacks_48 : decode cX7_lacks 48 = .ok (.ifCond .ne 5, 3) := by decide +kernel
theorem dX7_lacks_51 : decode cX7_lacks 51 = .ok (.iload_n 3, 1) := by decide +kernel
theorem dX7_lacks_52 : decode cX7_lacks 52 = .ok (.ireturn, 1) := by decide +kernel
theorem dX7_lacks_53 : decode cX7_lacks 53 = .ok (.iinc 3 1, 3) := by decide +kernel
theorem dX7_lacks_56 : decode cX7_lacks 56 = .ok (.goto (-25), 3) := by decide +kernel
theorem dX7_lacks_59 : decode cX7_lacks 59 = .ok (.bipush (-5), 2) := by decide +kernel
theorem dX7_lacks_61 : decode cX7_lacks 61 = .ok (.ireturn, 1) := by decide +kernel
theorem dX7_free_0 : decode cX7_free 0 = .ok (.iconst 1, 1) := by decide +kernel
theorem dX7_free_1 : decode cX7_free 1 = .ok (.aload_n 0, 1) := by decide +kernel
theorem dX7_free_2 : decode cX7_free 2 = .ok (.getfield 12, 3) := by decide +kernel
theorem dX7_free_5 : decode cX7_free 5 = .ok (.getfield 108, 3) := by decide +kernel
theorem dX7_free_8 : decode cX7_free 8 = .ok (.getfield 212, 3) := by decide +kernel
theorem dX7_free_11 : decode cX7_free 11 = .ok (.ishl, 1) := by decide +kernel
theorem dX7_free_12 : decode cX7_free 12 = .ok (.iconst 1, 1) := by decide +kernel
theorem dX7_free_13 : decode cX7_free 13 = .ok (.isub, 1) := by decide +kernel
theorem dX7_free_14 : decode cX7_free 14 = .ok (.istore_n 1, 1) := by decide +kernel
theorem dX7_free_15 : decode cX7_free 15 = .ok (.iload_n 1, 1) := by decide +kernel
theorem dX7_free_16 : decode cX7_free 16 = .ok (.aload_n 0, 1) := by decide +kernel
theorem dX7_free_17 : decode cX7_free 17 = .ok (.getfield 12, 3) := by decide +kernel
theorem dX7_free_20 : decode cX7_free 20 = .ok (.getfield 125, 3) := by decide +kernel
theorem dX7_free_23 : decode cX7_free 23 = .ok (.invokevirtual 213, 3) := by decide +kernel
theorem dX7_free_26 : decode cX7_free 26 = .ok (.iconst (-1), 1) := by decide +kernel
theorem dX7_free_27 : decode cX7_free 27 = .ok (.ixor, 1) := by decide +kernel
theorem dX7_free_28 : decode cX7_free 28 = .ok (.iand, 1) := by decide +kernel
theorem dX7_free_29 : decode cX7_free 29 = .ok (.ireturn, 1) := by decide +kernel
theorem dX7_oldest_0 : decode cX7_oldest 0 = .ok (.aload_n 0, 1) := by decide +kernel
theorem dX7_oldest_1 : decode cX7_oldest 1 = .ok (.getfield 12, 3) := by decide +kernel
theorem dX7_oldest_4 : decode cX7_oldest 4 = .ok (.getfield 108, 3) := by decide +kernel
theorem dX7_oldest_7 : decode cX7_oldest 7 = .ok (.iload_n 1, 1) := by decide +kernel
theorem dX7_oldest_8 : decode cX7_oldest 8 = .ok (.invokevirtual 112, 3) := by decide +kernel
theorem dX7_oldest_11 : decode cX7_oldest 11 = .ok (.ifCond .ne 5, 3) := by decide +kernel
theorem dX7_oldest_14 : decode cX7_oldest 14 = .ok (.iconst (-1), 1) := by decide +kernel
theorem dX7_oldest_15 : decode cX7_oldest 15 = .ok (.ireturn, 1) := by decide +kernel
theorem dX7_oldest_16 : decode cX7_oldest 16 = .ok (.iload_n 2, 1) := by decide +kernel
theorem dX7_oldest_17 : decode cX7_oldest 17 = .ok (.ifCond .lt 8, 3) := by decide +kernel
theorem dX7_oldest_20 : decode cX7_oldest 20 = .ok (.iload_n 2, 1) := by decide +kernel
theorem dX7_oldest_21 : decode cX7_oldest 21 = .ok (.iconst 1, 1) := by decide +kernel
theorem dX7_oldest_22 : decode cX7_oldest 22 = .ok (.if_icmp .le 6, 3) := by decide +kernel
theorem dX7_oldest_25 : decode cX7_oldest 25 = .ok (.bipush (-2), 2) := by decide +kernel
theorem dX7_oldest_27 : decode cX7_oldest 27 = .ok (.ireturn, 1) := by decide +kernel
theorem dX7_oldest_28 : decode cX7_oldest 28 = .ok (.aload_n 0, 1) := by decide +kernel
theorem dX7_oldest_29 : decode cX7_oldest 29 = .ok (.getfield 12, 3) := by decide +kernel
theorem dX7_oldest_32 : decode cX7_oldest 32 = .ok (.getfield 99, 3) := by decide +kernel
theorem dX7_oldest_35 : decode cX7_oldest 35 = .ok (.aload_n 0, 1) := by decide +kernel
theorem dX7_oldest_36 : decode cX7_oldest 36 = .ok (.getfield 12, 3) := by decide +kernel
theorem dX7_oldest_39 : decode cX7_oldest 39 = .ok (.getfield 108, 3) := by decide +kernel
theorem dX7_oldest_42 : decode cX7_oldest 42 = .ok (.getfield 118, 3) := by decide +kernel
theorem dX7_oldest_45 : decode cX7_oldest 45 = .ok (.iload_n 1, 1) := by decide +kernel
theorem dX7_oldest_46 : decode cX7_oldest 46 = .ok (.iaload, 1) := by decide +kernel
theorem dX7_oldest_47 : decode cX7_oldest 47 = .ok (.invokevirtual 216, 3) := by decide +kernel
theorem dX7_oldest_50 : decode cX7_oldest 50 = .ok (.istore_n 3, 1) := by decide +kernel
theorem dX7_oldest_51 : decode cX7_oldest 51 = .ok (.iload_n 3, 1) := by decide +kernel
theorem dX7_oldest_52 : decode cX7_oldest 52 = .ok (.bipush (-5), 2) := by decide +kernel
theorem dX7_oldest_54 : decode cX7_oldest 54 = .ok (.if_icmp .ne 6, 3) := by decide +kernel
theorem dX7_oldest_57 : decode cX7_oldest 57 = .ok (.bipush (-5), 2) := by decide +kernel
theorem dX7_oldest_59 : decode cX7_oldest 59 = .ok (.ireturn, 1) := by decide +kernel
theorem dX7_oldest_60 : decode cX7_oldest 60 = .ok (.iload_n 2, 1) := by decide +kernel
theorem dX7_oldest_61 : decode cX7_oldest 61 = .ok (.ifCond .ne 17, 3) := by decide +kernel
theorem dX7_oldest_64 : decode cX7_oldest 64 = .ok (.aload_n 0, 1) := by decide +kernel
theorem dX7_oldest_65 : decode cX7_oldest 65 = .ok (.getfield 12, 3) := by decide +kernel
theorem dX7_oldest_68 : decode cX7_oldest 68 = .ok (.getfield 99, 3) := by decide +kernel
theorem dX7_oldest_71 : decode cX7_oldest 71 = .ok (.iload_n 3, 1) := by decide +kernel
theorem dX7_oldest_72 : decode cX7_oldest 72 = .ok (.invokevirtual 219, 3) := by decide +kernel
theorem dX7_oldest_75 : decode cX7_oldest 75 = .ok (.goto 15, 3) := by decide +kernel
theorem dX7_oldest_78 : decode cX7_oldest 78 = .ok (.aload_n 0, 1) := by decide +kernel
theorem dX7_oldest_79 : decode cX7_oldest 79 = .ok (.getfield 12, 3) := by decide +kernel
theorem dX7_oldest_82 : decode cX7_oldest 82 = .ok (.getfield 99, 3) := by decide +kernel
theorem dX7_oldest_85 : decode cX7_oldest 85 = .ok (.getfield 155, 3) := by decide +kernel
theorem dX7_oldest_88 : decode cX7_oldest 88 = .ok (.iload_n 3, 1) := by decide +kernel
theorem dX7_oldest_89 : decode cX7_oldest 89 = .ok (.iaload, 1) := by decide +kernel
theorem dX7_oldest_90 : decode cX7_oldest 90 = .ok (.ireturn, 1) := by decide +kernel
theorem dX7_count_0 : decode cX7_count 0 = .ok (.iload_n 1, 1) := by decide +kernel
theorem dX7_count_1 : decode cX7_count 1 = .ok (.tableswitch 244 0 15 #[79, 87, 95, 103, 114, 125, 136, 147, 161, 175, 189, 197, 208, 218, 228, 236], 79) := by decide +kernel
theorem dX7_count_80 : decode cX7_count 80 = .ok (.aload_n 0, 1) := by decide +kernel
theorem dX7_count_81 : decode cX7_count 81 = .ok (.getfield 12, 3) := by decide +kernel
theorem dX7_count_84 : decode cX7_count 84 = .ok (.getfield 222, 3) := by decide +kernel
theorem dX7_count_87 : decode cX7_count 87 = .ok (.ireturn, 1) := by decide +kernel
theorem dX7_count_88 : decode cX7_count 88 = .ok (.aload_n 0, 1) := by decide +kernel
theorem dX7_count_89 : decode cX7_count 89 = .ok (.getfield 12, 3) := by decide +kernel
theorem dX7_count_92 : decode cX7_count 92 = .ok (.getfield 225, 3) := by decide +kernel
theorem dX7_count_95 : decode cX7_count 95 = .ok (.ireturn, 1) := by decide +kernel
theorem dX7_count_96 : decode cX7_count 96 = .ok (.aload_n 0, 1) := by decide +kernel
theorem dX7_count_97 : decode cX7_count 97 = .ok (.getfield 12, 3) := by decide +kernel
theorem dX7_count_100 : decode cX7_count 100 = .ok (.getfield 227, 3) := by decide +kernel
theorem dX7_count_103 : decode cX7_count 103 = .ok (.ireturn, 1) := by decide +kernel
theorem dX7_count_104 : decode cX7_count 104 = .ok (.aload_n 0, 1) := by decide +kernel
theorem dX7_count_105 : decode cX7_count 105 = .ok (.getfield 12, 3) := by decide +kernel
theorem dX7_count_108 : decode cX7_count 108 = .ok (.getfield 108, 3) := by decide +kernel
theorem dX7_count_111 : decode cX7_count 111 = .ok (.getfield 212, 3) := by decide +kernel
theorem dX7_count_114 : decode cX7_count 114 = .ok (.ireturn, 1) := by decide +kernel
theorem dX7_count_115 : decode cX7_count 115 = .ok (.aload_n 0, 1) := by decide +kernel
theorem dX7_count_116 : decode cX7_count 116 = .ok (.getfield 12, 3) := by decide +kernel
theorem dX7_count_119 : decode cX7_count 119 = .ok (.getfield 99, 3) := by decide +kernel
theorem dX7_count_122 : decode cX7_count 122 = .ok (.invokevirtual 103, 3) := by decide +kernel
theorem dX7_count_125 : decode cX7_count 125 = .ok (.ireturn, 1) := by decide +kernel
theorem dX7_count_126 : decode cX7_count 126 = .ok (.aload_n 0, 1) := by decide +kernel
theorem dX7_count_127 : decode cX7_count 127 = .ok (.getfield 12, 3) := by decide +kernel
theorem dX7_count_130 : decode cX7_count 130 = .ok (.getfield 99, 3) := by decide +kernel
theorem dX7_count_133 : decode cX7_count 133 = .ok (.invokevirtual 230, 3) := by decide +kernel
theorem dX7_count_136 : decode cX7_count 136 = .ok (.ireturn, 1) := by decide +kernel
theorem dX7_count_137 : decode cX7_count 137 = .ok (.aload_n 0, 1) := by decide +kernel
theorem dX7_count_138 : decode cX7_count 138 = .ok (.getfield 12, 3) := by decide +kernel
theorem dX7_count_141 : decode cX7_count 141 = .ok (.getfield 125, 3) := by decide +kernel
theorem dX7_count_144 : decode cX7_count 144 = .ok (.getfield 207, 3) := by decide +kernel
theorem dX7_count_147 : decode cX7_count 147 = .ok (.ireturn, 1) := by decide +kernel
theorem dX7_count_148 : decode cX7_count 148 = .ok (.aload_n 0, 1) := by decide +kernel
theorem dX7_count_149 : decode cX7_count 149 = .ok (.getfield 12, 3) := by decide +kernel
theorem dX7_count_152 : decode cX7_count 152 = .ok (.getfield 108, 3) := by decide +kernel
theorem dX7_count_155 : decode cX7_count 155 = .ok (.getfield 137, 3) := by decide +kernel
theorem dX7_count_158 : decode cX7_count 158 = .ok (.invokestatic 233, 3) := by decide +kernel
theorem dX7_count_161 : decode cX7_count 161 = .ok (.ireturn, 1) := by decide +kernel
theorem dX7_count_162 : decode cX7_count 162 = .ok (.aload_n 0, 1) := by decide +kernel
theorem dX7_count_163 : decode cX7_count 163 = .ok (.getfield 12, 3) := by decide +kernel
theorem dX7_count_166 : decode cX7_count 166 = .ok (.getfield 108, 3) := by decide +kernel
theorem dX7_count_169 : decode cX7_count 169 = .ok (.getfield 140, 3) := by decide +kernel
theorem dX7_count_172 : decode cX7_count 172 = .ok (.invokestatic 233, 3) := by decide +kernel
theorem dX7_count_175 : decode cX7_count 175 = .ok (.ireturn, 1) := by decide +kernel
theorem dX7_count_176 : decode cX7_count 176 = .ok (.aload_n 0, 1) := by decide +kernel
theorem dX7_count_177 : decode cX7_count 177 = .ok (.getfield 12, 3) := by decide +kernel
theorem dX7_count_180 : decode cX7_count 180 = .ok (.getfield 108, 3) := by decide +kernel
theorem dX7_count_183 : decode cX7_count 183 = .ok (.getfield 143, 3) := by decide +kernel
theorem dX7_count_186 : decode cX7_count 186 = .ok (.invokestatic 233, 3) := by decide +kernel
theorem dX7_count_189 : decode cX7_count 189 = .ok (.ireturn, 1) := by decide +kernel
theorem dX7_count_190 : decode cX7_count 190 = .ok (.aload_n 0, 1) := by decide +kernel
theorem dX7_count_191 : decode cX7_count 191 = .ok (.getfield 12, 3) := by decide +kernel
theorem dX7_count_194 : decode cX7_count 194 = .ok (.getfield 237, 3) := by decide +kernel
theorem dX7_count_197 : decode cX7_count 197 = .ok (.ireturn, 1) := by decide +kernel
theorem dX7_count_198 : decode cX7_count 198 = .ok (.aload_n 0, 1) := by decide +kernel
theorem dX7_count_199 : decode cX7_count 199 = .ok (.getfield 12, 3) := by decide +kernel
theorem dX7_count_202 : decode cX7_count 202 = .ok (.getfield 99, 3) := by decide +kernel
theorem dX7_count_205 : decode cX7_count 205 = .ok (.invokevirtual 240, 3) := by decide +kernel
theorem dX7_count_208 : decode cX7_count 208 = .ok (.ireturn, 1) := by decide +kernel
theorem dX7_count_209 : decode cX7_count 209 = .ok (.aload_n 0, 1) := by decide +kernel
theorem dX7_count_210 : decode cX7_count 210 = .ok (.getfield 12, 3) := by decide +kernel
theorem dX7_count_213 : decode cX7_count 213 = .ok (.getfield 243, 3) := by decide +kernel
theorem dX7_count_216 : decode cX7_count 216 = .ok (.iconst 0, 1) := by decide +kernel
theorem dX7_count_217 : decode cX7_count 217 = .ok (.iaload, 1) := by decide +kernel
theorem dX7_count_218 : decode cX7_count 218 = .ok (.ireturn, 1) := by decide +kernel
theorem dX7_count_219 : decode cX7_count 219 = .ok (.aload_n 0, 1) := by decide +kernel
theorem dX7_count_220 : decode cX7_count 220 = .ok (.getfield 12, 3) := by decide +kernel
theorem dX7_count_223 : decode cX7_count 223 = .ok (.getfield 243, 3) := by decide +kernel
theorem dX7_count_226 : decode cX7_count 226 = .ok (.iconst 1, 1) := by decide +kernel
theorem dX7_count_227 : decode cX7_count 227 = .ok (.iaload, 1) := by decide +kernel
theorem dX7_count_228 : decode cX7_count 228 = .ok (.ireturn, 1) := by decide +kernel
theorem dX7_count_229 : decode cX7_count 229 = .ok (.aload_n 0, 1) := by decide +kernel
theorem dX7_count_230 : decode cX7_count 230 = .ok (.getfield 28, 3) := by decide +kernel
theorem dX7_count_233 : decode cX7_count 233 = .ok (.getfield 246, 3) := by decide +kernel
theorem dX7_count_236 : decode cX7_count 236 = .ok (.ireturn, 1) := by decide +kernel
theorem dX7_count_237 : decode cX7_count 237 = .ok (.aload_n 0, 1) := by decide +kernel
theorem dX7_count_238 : decode cX7_count 238 = .ok (.getfield 35, 3) := by decide +kernel
theorem dX7_count_241 : decode cX7_count 241 = .ok (.getfield 247, 3) := by decide +kernel
theorem dX7_count_244 : decode cX7_count 244 = .ok (.ireturn, 1) := by decide +kernel
theorem dX7_count_245 : decode cX7_count 245 = .ok (.bipush (-2), 2) := by decide +kernel
theorem dX7_count_247 : decode cX7_count 247 = .ok (.ireturn, 1) := by decide +kernel
theorem dX7_isComb_0 : decode cX7_isComb 0 = .ok (.iload_n 0, 1) := by decide +kernel
theorem dX7_isComb_1 : decode cX7_isComb 1 = .ok (.ifCond .lt 13, 3) := by decide +kernel
theorem dX7_isComb_4 : decode cX7_isComb 4 = .ok (.iload_n 0, 1) := by decide +kernel
theorem dX7_isComb_5 : decode cX7_isComb 5 = .ok (.bipush 6, 2) := by decide +kernel
theorem dX7_isComb_7 : decode cX7_isComb 7 = .ok (.if_icmp .ge 7, 3) := by decide +kernel
theorem dX7_isComb_10 : decode cX7_isComb 10 = .ok (.iconst 1, 1) := by decide +kernel
theorem dX7_isComb_11 : decode cX7_isComb 11 = .ok (.goto 4, 3) := by decide +kernel
theorem dX7_isComb_14 : decode cX7_isComb 14 = .ok (.iconst 0, 1) := by decide +kernel
theorem dX7_isComb_15 : decode cX7_isComb 15 = .ok (.ireturn, 1) := by decide +kernel
theorem dX7_isPlace_0 : decode cX7_isPlace 0 = .ok (.iload_n 0, 1) := by decide +kernel
theorem dX7_isPlace_1 : decode cX7_isPlace 1 = .ok (.ifCond .lt 13, 3) := by decide +kernel
theorem dX7_isPlace_4 : decode cX7_isPlace 4 = .ok (.iload_n 0, 1) := by decide +kernel
theorem dX7_isPlace_5 : decode cX7_isPlace 5 = .ok (.bipush 7, 2) := by decide +kernel
theorem dX7_isPlace_7 : decode cX7_isPlace 7 = .ok (.if_icmp .ge 7, 3) := by decide +kernel
theorem dX7_isPlace_10 : decode cX7_isPlace 10 = .ok (.iconst 1, 1) := by decide +kernel
theorem dX7_isPlace_11 : decode cX7_isPlace 11 = .ok (.goto 4, 3) := by decide +kernel
theorem dX7_isPlace_14 : decode cX7_isPlace 14 = .ok (.iconst 0, 1) := by decide +kernel
theorem dX7_isPlace_15 : decode cX7_isPlace 15 = .ok (.ireturn, 1) := by decide +kernel
theorem dX7_isDoing_0 : decode cX7_isDoing 0 = .ok (.iload_n 0, 1) := by decide +kernel
theorem dX7_isDoing_1 : decode cX7_isDoing 1 = .ok (.ifCond .lt 13, 3) := by decide +kernel
theorem dX7_isDoing_4 : decode cX7_isDoing 4 = .ok (.iload_n 0, 1) := by decide +kernel
theorem dX7_isDoing_5 : decode cX7_isDoing 5 = .ok (.bipush 20, 2) := by decide +kernel
theorem dX7_isDoing_7 : decode cX7_isDoing 7 = .ok (.if_icmp .ge 7, 3) := by decide +kernel
theorem dX7_isDoing_10 : decode cX7_isDoing 10 = .ok (.iconst 1, 1) := by decide +kernel
theorem dX7_isDoing_11 : decode cX7_isDoing 11 = .ok (.goto 4, 3) := by decide +kernel
theorem dX7_isDoing_14 : decode cX7_isDoing 14 = .ok (.iconst 0, 1) := by decide +kernel
theorem dX7_isDoing_15 : decode cX7_isDoing 15 = .ok (.ireturn, 1) := by decide +kernel
theorem dX7_sum_0 : decode cX7_sum 0 = .ok (.iconst 0, 1) := by decide +kernel
theorem dX7_sum_1 : decode cX7_sum 1 = .ok (.istore_n 1, 1) := by decide +kernel
theorem dX7_sum_2 : decode cX7_sum 2 = .ok (.aload_n 0, 1) := by decide +kernel
theorem dX7_sum_3 : decode cX7_sum 3 = .ok (.astore_n 2, 1) := by decide +kernel
theorem dX7_sum_4 : decode cX7_sum 4 = .ok (.aload_n 2, 1) := by decide +kernel
theorem dX7_sum_5 : decode cX7_sum 5 = .ok (.arraylength, 1) := by decide +kernel
theorem dX7_sum_6 : decode cX7_sum 6 = .ok (.istore_n 3, 1) := by decide +kernel
theorem dX7_sum_7 : decode cX7_sum 7 = .ok (.iconst 0, 1) := by decide +kernel
theorem dX7_sum_8 : decode cX7_sum 8 = .ok (.istore 4, 2) := by decide +kernel
theorem dX7_sum_10 : decode cX7_sum 10 = .ok (.iload 4, 2) := by decide +kernel
theorem dX7_sum_12 : decode cX7_sum 12 = .ok (.iload_n 3, 1) := by decide +kernel
theorem dX7_sum_13 : decode cX7_sum 13 = .ok (.if_icmp .ge 20, 3) := by decide +kernel
theorem dX7_sum_16 : decode cX7_sum 16 = .ok (.aload_n 2, 1) := by decide +kernel
theorem dX7_sum_17 : decode cX7_sum 17 = .ok (.iload 4, 2) := by decide +kernel
theorem dX7_sum_19 : decode cX7_sum 19 = .ok (.iaload, 1) := by decide +kernel
theorem dX7_sum_20 : decode cX7_sum 20 = .ok (.istore 5, 2) := by decide +kernel
theorem dX7_sum_22 : decode cX7_sum 22 = .ok (.iload_n 1, 1) := by decide +kernel
theorem dX7_sum_23 : decode cX7_sum 23 = .ok (.iload 5, 2) := by decide +kernel
theorem dX7_sum_25 : decode cX7_sum 25 = .ok (.iadd, 1) := by decide +kernel
theorem dX7_sum_26 : decode cX7_sum 26 = .ok (.istore_n 1, 1) := by decide +kernel
theorem dX7_sum_27 : decode cX7_sum 27 = .ok (.iinc 4 1, 3) := by decide +kernel
theorem dX7_sum_30 : decode cX7_sum 30 = .ok (.goto (-20), 3) := by decide +kernel
theorem dX7_sum_33 : decode cX7_sum 33 = .ok (.iload_n 1, 1) := by decide +kernel
theorem dX7_sum_34 : decode cX7_sum 34 = .ok (.ireturn, 1) := by decide +kernel
theorem dX7_recorded_0 : decode cX7_recorded 0 = .ok (.iload_n 1, 1) := by decide +kernel
theorem dX7_recorded_1 : decode cX7_recorded 1 = .ok (.ifCond .lt 14, 3) := by decide +kernel
theorem dX7_recorded_4 : decode cX7_recorded 4 = .ok (.aload_n 0, 1) := by decide +kernel
theorem dX7_recorded_5 : decode cX7_recorded 5 = .ok (.getfield 28, 3) := by decide +kernel
theorem dX7_recorded_8 : decode cX7_recorded 8 = .ok (.aload_n 0, 1) := by decide +kernel
theorem dX7_recorded_9 : decode cX7_recorded 9 = .ok (.getfield 16, 3) := by decide +kernel
theorem dX7_recorded_12 : decode cX7_recorded 12 = .ok (.invokevirtual 250, 3) := by decide +kernel
theorem dX7_recorded_15 : decode cX7_recorded 15 = .ok (.iload_n 1, 1) := by decide +kernel
theorem dX7_recorded_16 : decode cX7_recorded 16 = .ok (.ireturn, 1) := by decide +kernel
theorem dX7_doThing_0 : decode cX7_doThing 0 = .ok (.aload_n 0, 1) := by decide +kernel
theorem dX7_doThing_1 : decode cX7_doThing 1 = .ok (.getfield 35, 3) := by decide +kernel
theorem dX7_doThing_4 : decode cX7_doThing 4 = .ok (.getfield 253, 3) := by decide +kernel
theorem dX7_doThing_7 : decode cX7_doThing 7 = .ok (.iload_n 1, 1) := by decide +kernel
theorem dX7_doThing_8 : decode cX7_doThing 8 = .ok (.iaload, 1) := by decide +kernel
theorem dX7_doThing_9 : decode cX7_doThing 9 = .ok (.lookupswitch 97 #[(0, 27), (1, 71)], 27) := by decide +kernel
theorem dX7_doThing_36 : decode cX7_doThing 36 = .ok (.aload_n 0, 1) := by decide +kernel
theorem dX7_doThing_37 : decode cX7_doThing 37 = .ok (.getfield 12, 3) := by decide +kernel
theorem dX7_doThing_40 : decode cX7_doThing 40 = .ok (.aload_n 0, 1) := by decide +kernel
theorem dX7_doThing_41 : decode cX7_doThing 41 = .ok (.getfield 35, 3) := by decide +kernel
theorem dX7_doThing_44 : decode cX7_doThing 44 = .ok (.getfield 256, 3) := by decide +kernel
theorem dX7_doThing_47 : decode cX7_doThing 47 = .ok (.iload_n 1, 1) := by decide +kernel
theorem dX7_doThing_48 : decode cX7_doThing 48 = .ok (.iaload, 1) := by decide +kernel
theorem dX7_doThing_49 : decode cX7_doThing 49 = .ok (.aload_n 0, 1) := by decide +kernel
theorem dX7_doThing_50 : decode cX7_doThing 50 = .ok (.getfield 35, 3) := by decide +kernel
theorem dX7_doThing_53 : decode cX7_doThing 53 = .ok (.getfield 257, 3) := by decide +kernel
theorem dX7_doThing_56 : decode cX7_doThing 56 = .ok (.iload_n 1, 1) := by decide +kernel
theorem dX7_doThing_57 : decode cX7_doThing 57 = .ok (.iaload, 1) := by decide +kernel
theorem dX7_doThing_58 : decode cX7_doThing 58 = .ok (.aload_n 0, 1) := by decide +kernel
theorem dX7_doThing_59 : decode cX7_doThing 59 = .ok (.getfield 35, 3) := by decide +kernel
theorem dX7_doThing_62 : decode cX7_doThing 62 = .ok (.getfield 260, 3) := by decide +kernel
theorem dX7_doThing_65 : decode cX7_doThing 65 = .ok (.iload_n 1, 1) := by decide +kernel
theorem dX7_doThing_66 : decode cX7_doThing 66 = .ok (.iaload, 1) := by decide +kernel
theorem dX7_doThing_67 : decode cX7_doThing 67 = .ok (.aload_n 0, 1) := by decide +kernel
theorem dX7_doThing_68 : decode cX7_doThing 68 = .ok (.getfield 35, 3) := by decide +kernel
theorem dX7_doThing_71 : decode cX7_doThing 71 = .ok (.getfield 261, 3) := by decide +kernel
theorem dX7_doThing_74 : decode cX7_doThing 74 = .ok (.iload_n 1, 1) := by decide +kernel
theorem dX7_doThing_75 : decode cX7_doThing 75 = .ok (.iaload, 1) := by decide +kernel
theorem dX7_doThing_76 : decode cX7_doThing 76 = .ok (.invokevirtual 54, 3) := by decide +kernel
theorem dX7_doThing_79 : decode cX7_doThing 79 = .ok (.ireturn, 1) := by decide +kernel
theorem dX7_doThing_80 : decode cX7_doThing 80 = .ok (.aload_n 0, 1) := by decide +kernel
theorem dX7_doThing_81 : decode cX7_doThing 81 = .ok (.getfield 12, 3) := by decide +kernel
theorem dX7_doThing_84 : decode cX7_doThing 84 = .ok (.aload_n 0, 1) := by decide +kernel
theorem dX7_doThing_85 : decode cX7_doThing 85 = .ok (.getfield 35, 3) := by decide +kernel
theorem dX7_doThing_88 : decode cX7_doThing 88 = .ok (.getfield 256, 3) := by decide +kernel
theorem dX7_doThing_91 : decode cX7_doThing 91 = .ok (.iload_n 1, 1) := by decide +kernel
theorem dX7_doThing_92 : decode cX7_doThing 92 = .ok (.iaload, 1) := by decide +kernel
theorem dX7_doThing_93 : decode cX7_doThing 93 = .ok (.aload_n 0, 1) := by decide +kernel
theorem dX7_doThing_94 : decode cX7_doThing 94 = .ok (.getfield 35, 3) := by decide +kernel
theorem dX7_doThing_97 : decode cX7_doThing 97 = .ok (.getfield 257, 3) := by decide +kernel
theorem dX7_doThing_100 : decode cX7_doThing 100 = .ok (.iload_n 1, 1) := by decide +kernel
theorem dX7_doThing_101 : decode cX7_doThing 101 = .ok (.iaload, 1) := by decide +kernel
theorem dX7_doThing_102 : decode cX7_doThing 102 = .ok (.invokevirtual 58, 3) := by decide +kernel
theorem dX7_doThing_105 : decode cX7_doThing 105 = .ok (.ireturn, 1) := by decide +kernel
theorem dX7_doThing_106 : decode cX7_doThing 106 = .ok (.aload_n 0, 1) := by decide +kernel
theorem dX7_doThing_107 : decode cX7_doThing 107 = .ok (.getfield 12, 3) := by decide +kernel
theorem dX7_doThing_110 : decode cX7_doThing 110 = .ok (.aload_n 0, 1) := by decide +kernel
theorem dX7_doThing_111 : decode cX7_doThing 111 = .ok (.getfield 35, 3) := by decide +kernel
theorem dX7_doThing_114 : decode cX7_doThing 114 = .ok (.getfield 257, 3) := by decide +kernel
theorem dX7_doThing_117 : decode cX7_doThing 117 = .ok (.iload_n 1, 1) := by decide +kernel
theorem dX7_doThing_118 : decode cX7_doThing 118 = .ok (.iaload, 1) := by decide +kernel
theorem dX7_doThing_119 : decode cX7_doThing 119 = .ok (.invokevirtual 61, 3) := by decide +kernel
theorem dX7_doThing_122 : decode cX7_doThing 122 = .ok (.ireturn, 1) := by decide +kernel
theorem dX8_init_0 : decode cX8_init 0 = .ok (.aload_n 0, 1) := by decide +kernel
theorem dX8_init_1 : decode cX8_init 1 = .ok (.invokespecial 1, 3) := by decide +kernel
theorem dX8_init_4 : decode cX8_init 4 = .ok (.aload_n 0, 1) := by decide +kernel
theorem dX8_init_5 : decode cX8_init 5 = .ok (.sipush 4896, 3) := by decide +kernel
theorem dX8_init_8 : decode cX8_init 8 = .ok (.newarray .int, 2) := by decide +kernel
theorem dX8_init_10 : decode cX8_init 10 = .ok (.putfield 7, 3) := by decide +kernel
theorem dX8_init_13 : decode cX8_init 13 = .ok (.aload_n 0, 1) := by decide +kernel
theorem dX8_init_14 : decode cX8_init 14 = .ok (.bipush 60, 2) := by decide +kernel
theorem dX8_init_16 : decode cX8_init 16 = .ok (.newarray .int, 2) := by decide +kernel
theorem dX8_init_18 : decode cX8_init 18 = .ok (.putfield 13, 3) := by decide +kernel
theorem dX8_init_21 : decode cX8_init 21 = .ok (.aload_n 0, 1) := by decide +kernel
theorem dX8_init_22 : decode cX8_init 22 = .ok (.bipush (-5), 2) := by decide +kernel
theorem dX8_init_24 : decode cX8_init 24 = .ok (.putfield 16, 3) := by decide +kernel
theorem dX8_init_27 : decode cX8_init 27 = .ok (.aload_n 0, 1) := by decide +kernel
theorem dX8_init_28 : decode cX8_init 28 = .ok (.bipush (-5), 2) := by decide +kernel
theorem dX8_init_30 : decode cX8_init 30 = .ok (.putfield 20, 3) := by decide +kernel
theorem dX8_init_33 : decode cX8_init 33 = .ok (.aload_n 0, 1) := by decide +kernel
theorem dX8_init_34 : decode cX8_init 34 = .ok (.bipush 12, 2) := by decide +kernel
theorem dX8_init_36 : decode cX8_init 36 = .ok (.newarray .int, 2) := by decide +kernel
theorem dX8_init_38 : decode cX8_init 38 = .ok (.putfield 23, 3) := by decide +kernel
theorem dX8_init_41 : decode cX8_init 41 = .ok (.aload_n 0, 1) := by decide +kernel
theorem dX8_init_42 : decode cX8_init 42 = .ok (.bipush 12, 2) := by decide +kernel
theorem dX8_init_44 : decode cX8_init 44 = .ok (.newarray .int, 2) := by decide +kernel
theorem dX8_init_46 : decode cX8_init 46 = .ok (.putfield 26, 3) := by decide +kernel
theorem dX8_init_49 : decode cX8_init 49 = .ok (.aload_n 0, 1) := by decide +kernel
theorem dX8_init_50 : decode cX8_init 50 = .ok (.getfield 7, 3) := by decide +kernel
theorem dX8_init_53 : decode cX8_init 53 = .ok (.iconst 0, 1) := by decide +kernel
theorem dX8_init_54 : decode cX8_init 54 = .ok (.iconst 5, 1) := by decide +kernel
theorem dX8_init_55 : decode cX8_init 55 = .ok (.iastore, 1) := by decide +kernel
theorem dX8_init_56 : decode cX8_init 56 = .ok (.aload_n 0, 1) := by decide +kernel
theorem dX8_init_57 : decode cX8_init 57 = .ok (.getfield 7, 3) := by decide +kernel
theorem dX8_init_60 : decode cX8_init 60 = .ok (.iconst 1, 1) := by decide +kernel
theorem dX8_init_61 : decode cX8_init 61 = .ok (.bipush 10, 2) := by decide +kernel
theorem dX8_init_63 : decode cX8_init 63 = .ok (.iastore, 1) := by decide +kernel
theorem dX8_init_64 : decode cX8_init 64 = .ok (.iconst 0, 1) := by decide +kernel
theorem dX8_init_65 : decode cX8_init 65 = .ok (.istore_n 1, 1) := by decide +kernel
theorem dX8_init_66 : decode cX8_init 66 = .ok (.iload_n 1, 1) := by decide +kernel
theorem dX8_init_67 : decode cX8_init 67 = .ok (.sipush 140, 3) := by decide +kernel
theorem dX8_init_70 : decode cX8_init 70 = .ok (.if_icmp .ge 23, 3) := by decide +kernel
theorem dX8_init_73 : decode cX8_init 73 = .ok (.aload_n 0, 1) := by decide +kernel
theorem dX8_init_74 : decode cX8_init 74 = .ok (.getfield 7, 3) := by decide +kernel
theorem dX8_init_77 : decode cX8_init 77 = .ok (.sipush 192, 3) := by decide +kernel
theorem dX8_init_80 : decode cX8_init 80 = .ok (.iconst 3, 1) := by decide +kernel
theorem dX8_init_81 : decode cX8_init 81 = .ok (.iload_n 1, 1) := by decide +kernel
theorem dX8_init_82 : decode cX8_init 82 = .ok (.imul, 1) := by decide +kernel
theorem dX8_init_83 : decode cX8_init 83 = .ok (.iadd, 1) := by decide +kernel
theorem dX8_init_84 : decode cX8_init 84 = .ok (.bipush (-5), 2) := by decide +kernel
theorem dX8_init_86 : decode cX8_init 86 = .ok (.iastore, 1) := by decide +kernel
theorem dX8_init_87 : decode cX8_init 87 = .ok (.iinc 1 1, 3) := by decide +kernel
theorem dX8_init_90 : decode cX8_init 90 = .ok (.goto (-24), 3) := by decide +kernel
theorem dX8_init_93 : decode cX8_init 93 = .ok (.return_, 1) := by decide +kernel
theorem dX8_in_0 : decode cX8_in 0 = .ok (.iload_n 0, 1) := by decide +kernel
theorem dX8_in_1 : decode cX8_in 1 = .ok (.iload_n 1, 1) := by decide +kernel
theorem dX8_in_2 : decode cX8_in 2 = .ok (.if_icmp .lt 12, 3) := by decide +kernel
theorem dX8_in_5 : decode cX8_in 5 = .ok (.iload_n 0, 1) := by decide +kernel
theorem dX8_in_6 : decode cX8_in 6 = .ok (.iload_n 2, 1) := by decide +kernel
theorem dX8_in_7 : decode cX8_in 7 = .ok (.if_icmp .gt 7, 3) := by decide +kernel
theorem dX8_in_10 : decode cX8_in 10 = .ok (.iconst 1, 1) := by decide +kernel
theorem dX8_in_11 : decode cX8_in 11 = .ok (.goto 4, 3) := by decide +kernel
theorem dX8_in_14 : decode cX8_in 14 = .ok (.iconst 0, 1) := by decide +kernel
theorem dX8_in_15 : decode cX8_in 15 = .ok (.ireturn, 1) := by decide +kernel
theorem dX8_flag_0 : decode cX8_flag 0 = .ok (.iload_n 0, 1) := by decide +kernel
theorem dX8_flag_1 : decode cX8_flag 1 = .ok (.ifCond .eq 7, 3) := by decide +kernel
theorem dX8_flag_4 : decode cX8_flag 4 = .ok (.iconst 1, 1) := by decide +kernel
theorem dX8_flag_5 : decode cX8_flag 5 = .ok (.goto 4, 3) := by decide +kernel
theorem dX8_flag_8 : decode cX8_flag 8 = .ok (.iconst 0, 1) := by decide +kernel
theorem dX8_flag_9 : decode cX8_flag 9 = .ok (.ireturn, 1) := by decide +kernel
theorem dX8_copies_0 : decode cX8_copies 0 = .ok (.iconst 0, 1) := by decide +kernel
theorem dX8_copies_1 : decode cX8_copies 1 = .ok (.istore_n 3, 1) := by decide +kernel
theorem dX8_copies_2 : decode cX8_copies 2 = .ok (.iload_n 3, 1) := by decide +kernel
theorem dX8_copies_3 : decode cX8_copies 3 = .ok (.sipush 612, 3) := by decide +kernel
theorem dX8_copies_6 : decode cX8_copies 6 = .ok (.if_icmp .ge 33, 3) := by decide +kernel
theorem dX8_copies_9 : decode cX8_copies 9 = .ok (.aload_n 0, 1) := by decide +kernel
theorem dX8_copies_10 : decode cX8_copies 10 = .ok (.getfield 7, 3) := by decide +kernel
theorem dX8_copies_13 : decode cX8_copies 13 = .ok (.sipush 612, 3) := by decide +kernel
theorem dX8_copies_16 : decode cX8_copies 16 = .ok (.iload_n 2, 1) := by decide +kernel
theorem dX8_copies_17 : decode cX8_copies 17 = .ok (.imul, 1) := by decide +kernel
theorem dX8_copies_18 : decode cX8_copies 18 = .ok (.iload_n 3, 1) := by decide +kernel
theorem dX8_copies_19 : decode cX8_copies 19 = .ok (.iadd, 1) := by decide +kernel
theorem dX8_copies_20 : decode cX8_copies 20 = .ok (.aload_n 0, 1) := by decide +kernel
theorem dX8_copies_21 : decode cX8_copies 21 = .ok (.getfield 7, 3) := by decide +kernel
theorem dX8_copies_24 : decode cX8_copies 24 = .ok (.sipush 612, 3) := by decide +kernel
theorem dX8_copies_27 : decode cX8_copies 27 = .ok (.iload_n 1, 1) := by decide +kernel
theorem dX8_copies_28 : decode cX8_copies 28 = .ok (.imul, 1) := by decide +kernel
theorem dX8_copies_29 : decode cX8_copies 29 = .ok (.iload_n 3, 1) := by decide +kernel
theorem dX8_copies_30 : decode cX8_copies 30 = .ok (.iadd, 1) := by decide +kernel
theorem dX8_copies_31 : decode cX8_copies 31 = .ok (.iaload, 1) := by decide +kernel
theorem dX8_copies_32 : decode cX8_copies 32 = .ok (.iastore, 1) := by decide +kernel
theorem dX8_copies_33 : decode cX8_copies 33 = .ok (.iinc 3 1, 3) := by decide +kernel
theorem dX8_copies_36 : decode cX8_copies 36 = .ok (.goto (-34), 3) := by decide +kernel
theorem dX8_copies_39 : decode cX8_copies 39 = .ok (.return_, 1) := by decide +kernel
theorem dX8_records_0 : decode cX8_records 0 = .ok (.aload_n 0, 1) := by decide +kernel
theorem dX8_records_1 : decode cX8_records 1 = .ok (.getfield 29, 3) := by decide +kernel
theorem dX8_records_4 : decode cX8_records 4 = .ok (.iconst 4, 1) := by decide +kernel
theorem dX8_records_5 : decode cX8_records 5 = .ok (.if_icmp .ne 34, 3) := by decide +kernel
theorem dX8_records_8 : decode cX8_records 8 = .ok (.iconst 1, 1) := by decide +kernel
theorem dX8_records_9 : decode cX8_records 9 = .ok (.istore_n 2, 1) := by decide +kernel
theorem dX8_records_10 : decode cX8_records 10 = .ok (.iload_n 2, 1) := by decide +kernel
theorem dX8_records_11 : decode cX8_records 11 = .ok (.iconst 4, 1) := by decide +kernel
theorem dX8_records_12 : decode cX8_records 12 = .ok (.if_icmp .ge 17, 3) := by decide +kernel
theorem dX8_records_15 : decode cX8_records 15 = .ok (.aload_n 0, 1) := by decide +kernel
theorem dX8_records_16 : decode cX8_records 16 = .ok (.iload_n 2, 1) := by decide +kernel
theorem dX8_records_17 : decode cX8_records 17 = .ok (.iconst 1, 1) := by decide +kernel
theorem dX8_records_18 : decode cX8_records 18 = .ok (.iadd, 1) := by decide +kernel
theorem dX8_records_19 : decode cX8_records 19 = .ok (.iload_n 2, 1) := by decide +kernel
theorem dX8_records_20 : decode cX8_records 20 = .ok (.invokevirtual 32, 3) := by decide +kernel
theorem dX8_records_23 : decode cX8_records 23 = .ok (.iinc 2 1, 3) := by decide +kernel
theorem dX8_records_26 : decode cX8_records 26 = .ok (.goto (-16), 3) := by decide +kernel
theorem dX8_records_29 : decode cX8_records 29 = .ok (.aload_n 0, 1) := by decide +kernel
theorem dX8_records_30 : decode cX8_records 30 = .ok (.dup, 1) := by decide +kernel
theorem dX8_records_31 : decode cX8_records 31 = .ok (.getfield 29, 3) := by decide +kernel
theorem dX8_records_34 : decode cX8_records 34 = .ok (.iconst 1, 1) := by decide +kernel
theorem dX8_records_35 : decode cX8_records 35 = .ok (.isub, 1) := by decide +kernel
theorem dX8_records_36 : decode cX8_records 36 = .ok (.putfield 29, 3) := by decide +kernel
theorem dX8_records_39 : decode cX8_records 39 = .ok (.aload_n 0, 1) := by decide +kernel
theorem dX8_records_40 : decode cX8_records 40 = .ok (.dup, 1) := by decide +kernel
theorem dX8_records_41 : decode cX8_records 41 = .ok (.getfield 29, 3) := by decide +kernel
theorem dX8_records_44 : decode cX8_records 44 = .ok (.iconst 1, 1) := by decide +kernel
theorem dX8_records_45 : decode cX8_records 45 = .ok (.iadd, 1) := by decide +kernel
theorem dX8_records_46 : decode cX8_records 46 = .ok (.putfield 29, 3) := by decide +kernel
theorem dX8_records_49 : decode cX8_records 49 = .ok (.aload_n 0, 1) := by decide +kernel
theorem dX8_records_50 : decode cX8_records 50 = .ok (.iload_n 1, 1) := by decide +kernel
theorem dX8_records_51 : decode cX8_records 51 = .ok (.aload_n 0, 1) := by decide +kernel
theorem dX8_records_52 : decode cX8_records 52 = .ok (.getfield 29, 3) := by decide +kernel
theorem dX8_records_55 : decode cX8_records 55 = .ok (.invokevirtual 32, 3) := by decide +kernel
theorem dX8_records_58 : decode cX8_records 58 = .ok (.return_, 1) := by decide +kernel
theorem dX8_droneAt_0 : decode cX8_droneAt 0 = .ok (.iload_n 0, 1) := by decide +kernel
theorem dX8_droneAt_1 : decode cX8_droneAt 1 = .ok (.bipush 12, 2) := by decide +kernel
theorem dX8_droneAt_3 : decode cX8_droneAt 3 = .ok (.iadd, 1) := by decide +kernel
theorem dX8_droneAt_4 : decode cX8_droneAt 4 = .ok (.bipush 6, 2) := by decide +kernel
theorem dX8_droneAt_6 : decode cX8_droneAt 6 = .ok (.iload_n 1, 1) := by decide +kernel
theorem dX8_droneAt_7 : decode cX8_droneAt 7 = .ok (.imul, 1) := by decide +kernel
theorem dX8_droneAt_8 : decode cX8_droneAt 8 = .ok (.iadd, 1) := by decide +kernel
theorem dX8_droneAt_9 : decode cX8_droneAt 9 = .ok (.ireturn, 1) := by decide +kernel
theorem dX8_petitionAt_0 : decode cX8_petitionAt 0 = .ok (.iload_n 0, 1) := by decide +kernel
theorem dX8_petitionAt_1 : decode cX8_petitionAt 1 = .ok (.bipush 84, 2) := by decide +kernel
theorem dX8_petitionAt_3 : decode cX8_petitionAt 3 = .ok (.iadd, 1) := by decide +kernel
theorem dX8_petitionAt_4 : decode cX8_petitionAt 4 = .ok (.iconst 5, 1) := by decide +kernel
theorem dX8_petitionAt_5 : decode cX8_petitionAt 5 = .ok (.iload_n 1, 1) := by decide +kernel
theorem dX8_petitionAt_6 : decode cX8_petitionAt 6 = .ok (.imul, 1) := by decide +kernel
theorem dX8_petitionAt_7 : decode cX8_petitionAt 7 = .ok (.iadd, 1) := by decide +kernel
theorem dX8_petitionAt_8 : decode cX8_petitionAt 8 = .ok (.ireturn, 1) := by decide +kernel
theorem dX8_bylawAt_0 : decode cX8_bylawAt 0 = .ok (.iload_n 0, 1) := by decide +kernel
theorem dX8_bylawAt_1 : decode cX8_bylawAt 1 = .ok (.sipush 192, 3) := by decide +kernel
theorem dX8_bylawAt_4 : decode cX8_bylawAt 4 = .ok (.iadd, 1) := by decide +kernel
theorem dX8_bylawAt_5 : decode cX8_bylawAt 5 = .ok (.iconst 3, 1) := by decide +kernel
theorem dX8_bylawAt_6 : decode cX8_bylawAt 6 = .ok (.bipush 20, 2) := by decide +kernel
theorem dX8_bylawAt_8 : decode cX8_bylawAt 8 = .ok (.iload_n 1, 1) := by decide +kernel
theorem dX8_bylawAt_9 : decode cX8_bylawAt 9 = .ok (.imul, 1) := by decide +kernel
theorem dX8_bylawAt_10 : decode cX8_bylawAt 10 = .ok (.iload_n 2, 1) := by decide +kernel
theorem dX8_bylawAt_11 : decode cX8_bylawAt 11 = .ok (.iadd, 1) := by decide +kernel
theorem dX8_bylawAt_12 : decode cX8_bylawAt 12 = .ok (.imul, 1) := by decide +kernel
theorem dX8_bylawAt_13 : decode cX8_bylawAt 13 = .ok (.iadd, 1) := by decide +kernel
theorem dX8_bylawAt_14 : decode cX8_bylawAt 14 = .ok (.ireturn, 1) := by decide +kernel
theorem dX8_support_0 : decode cX8_support 0 = .ok (.iload_n 1, 1) := by decide +kernel
theorem dX8_support_1 : decode cX8_support 1 = .ok (.iload_n 2, 1) := by decide +kernel
theorem dX8_support_2 : decode cX8_support 2 = .ok (.invokestatic 36, 3) := by decide +kernel
theorem dX8_support_5 : decode cX8_support 5 = .ok (.istore_n 3, 1) := by decide +kernel
theorem dX8_support_6 : decode cX8_support 6 = .ok (.aload_n 0, 1) := by decide +kernel
theorem dX8_support_7 : decode cX8_support 7 = .ok (.getfield 7, 3) := by decide +kernel
theorem dX8_support_10 : decode cX8_support 10 = .ok (.iload_n 1, 1) := by decide +kernel
theorem dX8_support_11 : decode cX8_support 11 = .ok (.aload_n 0, 1) := by decide +kernel
theorem dX8_support_12 : decode cX8_support 12 = .ok (.getfield 7, 3) := by decide +kernel
theorem dX8_support_15 : decode cX8_support 15 = .ok (.iload_n 3, 1) := by decide +kernel
theorem dX8_support_16 : decode cX8_support 16 = .ok (.iaload, 1) := by decide +kernel
theorem dX8_support_17 : decode cX8_support 17 = .ok (.invokestatic 40, 3) := by decide +kernel
theorem dX8_support_20 : decode cX8_support 20 = .ok (.iconst 1, 1) := by decide +kernel
theorem dX8_support_21 : decode cX8_support 21 = .ok (.iadd, 1) := by decide +kernel
theorem dX8_support_22 : decode cX8_support 22 = .ok (.iaload, 1) := by decide +kernel
theorem dX8_support_23 : decode cX8_support 23 = .ok (.istore 4, 2) := by decide +kernel
theorem dX8_support_25 : decode cX8_support 25 = .ok (.iconst 0, 1) := by decide +kernel
theorem dX8_support_26 : decode cX8_support 26 = .ok (.istore 5, 2) := by decide +kernel
theorem dX8_support_28 : decode cX8_support 28 = .ok (.iload 5, 2) := by decide +kernel
theorem dX8_support_30 : decode cX8_support 30 = .ok (.aload_n 0, 1) := by decide +kernel
theorem dX8_support_31 : decode cX8_support 31 = .ok (.getfield 7, 3) := by decide +kernel
theorem dX8_support_34 : decode cX8_support 34 = .ok (.iload_n 1, 1) := by decide +kernel
theorem dX8_support_35 : decode cX8_support 35 = .ok (.iconst 5, 1) := by decide +kernel
theorem dX8_support_36 : decode cX8_support 36 = .ok (.iadd, 1) := by decide +kernel
theorem dX8_support_37 : decode cX8_support 37 = .ok (.iaload, 1) := by decide +kernel
theorem dX8_support_38 : decode cX8_support 38 = .ok (.if_icmp .ge 41, 3) := by decide +kernel
theorem dX8_support_41 : decode cX8_support 41 = .ok (.iload 4, 2) := by decide +kernel
theorem dX8_support_43 : decode cX8_support 43 = .ok (.aload_n 0, 1) := by decide +kernel
theorem dX8_support_44 : decode cX8_support 44 = .ok (.getfield 7, 3) := by decide +kernel
theorem dX8_support_47 : decode cX8_support 47 = .ok (.iload_n 3, 1) := by decide +kernel
theorem dX8_support_48 : decode cX8_support 48 = .ok (.iconst 4, 1) := by decide +kernel
theorem dX8_support_49 : decode cX8_support 49 = .ok (.iadd, 1) := by decide +kernel
theorem dX8_support_50 : decode cX8_support 50 = .ok (.iaload, 1) := by decide +kernel
theorem dX8_support_51 : decode cX8_support 51 = .ok (.iload 5, 2) := by decide +kernel
theorem dX8_support_53 : decode cX8_support 53 = .ok (.ishr, 1) := by decide +kernel
theorem dX8_support_54 : decode cX8_support 54 = .ok (.iconst 1, 1) := by decide +kernel
theorem dX8_support_55 : decode cX8_support 55 = .ok (.iand, 1) := by decide +kernel
theorem dX8_support_56 : decode cX8_support 56 = .ok (.aload_n 0, 1) := by decide +kernel
theorem dX8_support_57 : decode cX8_support 57 = .ok (.getfield 7, 3) := by decide +kernel
theorem dX8_support_60 : decode cX8_support 60 = .ok (.iload_n 1, 1) := by decide +kernel
theorem dX8_support_61 : decode cX8_support 61 = .ok (.iload 5, 2) := by decide +kernel
theorem dX8_support_63 : decode cX8_support 63 = .ok (.invokestatic 40, 3) := by decide +kernel
theorem dX8_support_66 : decode cX8_support 66 = .ok (.iconst 1, 1) := by decide +kernel
theorem dX8_support_67 : decode cX8_support 67 = .ok (.iadd, 1) := by decide +kernel
theorem dX8_support_68 : decode cX8_support 68 = .ok (.iaload, 1) := by decide +kernel
theorem dX8_support_69 : decode cX8_support 69 = .ok (.imul, 1) := by decide +kernel
theorem dX8_support_70 : decode cX8_support 70 = .ok (.iadd, 1) := by decide +kernel
theorem dX8_support_71 : decode cX8_support 71 = .ok (.istore 4, 2) := by decide +kernel
theorem dX8_support_73 : decode cX8_support 73 = .ok (.iinc 5 1, 3) := by decide +kernel
theorem dX8_support_76 : decode cX8_support 76 = .ok (.goto (-48), 3) := by decide +kernel
theorem dX8_support_79 : decode cX8_support 79 = .ok (.iload 4, 2) := by decide +kernel
theorem dX8_support_81 : decode cX8_support 81 = .ok (.ireturn, 1) := by decide +kernel
theorem dX8_weightAt_0 : decode cX8_weightAt 0 = .ok (.iconst 0, 1) := by decide +kernel
theorem dX8_weightAt_1 : decode cX8_weightAt 1 = .ok (.istore_n 3, 1) := by decide +kernel
theorem dX8_weightAt_2 : decode cX8_weightAt 2 = .ok (.iconst 0, 1) := by decide +kernel
theorem dX8_weightAt_3 : decode cX8_weightAt 3 = .ok (.istore 4, 2) := by decide +kernel
theorem dX8_weightAt_5 : decode cX8_weightAt 5 = .ok (.iload 4, 2) := by decide +kernel
theorem dX8_weightAt_7 : decode cX8_weightAt 7 = .ok (.aload_n 0, 1) := by decide +kernel
theorem dX8_weightAt_8 : decode cX8_weightAt 8 = .ok (.getfield 7, 3) := by decide +kernel
theorem dX8_weightAt_11 : decode cX8_weightAt 11 = .ok (.iload_n 1, 1) := by decide +kernel
theorem dX8_weightAt_12 : decode cX8_weightAt 12 = .ok (.iconst 5, 1) := by decide +kernel
theorem dX8_weightAt_13 : decode cX8_weightAt 13 = .ok (.iadd, 1) := by decide +kernel
theorem dX8_weightAt_14 : decode cX8_weightAt 14 = .ok (.iaload, 1) := by decide +kernel
theorem dX8_weightAt_15 : decode cX8_weightAt 15 = .ok (.if_icmp .ge 50, 3) := by decide +kernel
theorem dX8_weightAt_18 : decode cX8_weightAt 18 = .ok (.iload_n 1, 1) := by decide +kernel
theorem dX8_weightAt_19 : decode cX8_weightAt 19 = .ok (.iload 4, 2) := by decide +kernel
theorem dX8_weightAt_21 : decode cX8_weightAt 21 = .ok (.invokestatic 40, 3) := by decide +kernel
theorem dX8_weightAt_24 : decode cX8_weightAt 24 = .ok (.istore 5, 2) := by decide +kernel
theorem dX8_weightAt_26 : decode cX8_weightAt 26 = .ok (.iload_n 3, 1) := by decide +kernel
theorem dX8_weightAt_27 : decode cX8_weightAt 27 = .ok (.iload_n 2, 1) := by decide +kernel
theorem dX8_weightAt_28 : decode cX8_weightAt 28 = .ok (.bipush 6, 2) := by decide +kernel
theorem dX8_weightAt_30 : decode cX8_weightAt 30 = .ok (.if_icmp .eq 14, 3) := by decide +kernel
theorem dX8_weightAt_33 : decode cX8_weightAt 33 = .ok (.aload_n 0, 1) := by decide +kernel
theorem dX8_weightAt_34 : decode cX8_weightAt 34 = .ok (.getfield 7, 3) := by decide +kernel
theorem dX8_weightAt_37 : decode cX8_weightAt 37 = .ok (.iload 5, 2) := by decide +kernel
theorem dX8_weightAt_39 : decode cX8_weightAt 39 = .ok (.iaload, 1) := by decide +kernel
theorem dX8_weightAt_40 : decode cX8_weightAt 40 = .ok (.iload_n 2, 1) := by decide +kernel
theorem dX8_weightAt_41 : decode cX8_weightAt 41 = .ok (.if_icmp .ne 15, 3) := by decide +kernel
theorem dX8_weightAt_44 : decode cX8_weightAt 44 = .ok (.aload_n 0, 1) := by decide +kernel
theorem dX8_weightAt_45 : decode cX8_weightAt 45 = .ok (.getfield 7, 3) := by decide +kernel
theorem dX8_weightAt_48 : decode cX8_weightAt 48 = .ok (.iload 5, 2) := by decide +kernel
theorem dX8_weightAt_50 : decode cX8_weightAt 50 = .ok (.iconst 1, 1) := by decide +kernel
theorem dX8_weightAt_51 : decode cX8_weightAt 51 = .ok (.iadd, 1) := by decide +kernel
theorem dX8_weightAt_52 : decode cX8_weightAt 52 = .ok (.iaload, 1) := by decide +kernel
theorem dX8_weightAt_53 : decode cX8_weightAt 53 = .ok (.goto 4, 3) := by decide +kernel
theorem dX8_weightAt_56 : decode cX8_weightAt 56 = .ok (.iconst 0, 1) := by decide +kernel
theorem dX8_weightAt_57 : decode cX8_weightAt 57 = .ok (.iadd, 1) := by decide +kernel
theorem dX8_weightAt_58 : decode cX8_weightAt 58 = .ok (.istore_n 3, 1) := by decide +kernel
theorem dX8_weightAt_59 : decode cX8_weightAt 59 = .ok (.iinc 4 1, 3) := by decide +kernel
theorem dX8_weightAt_62 : decode cX8_weightAt 62 = .ok (.goto (-57), 3) := by decide +kernel
theorem dX8_weightAt_65 : decode cX8_weightAt 65 = .ok (.iload_n 3, 1) := by decide +kernel
theorem dX8_weightAt_66 : decode cX8_weightAt 66 = .ok (.ireturn, 1) := by decide +kernel
theorem dX8_refusedWith_0 : decode cX8_refusedWith 0 = .ok (.bipush (-5), 2) := by decide +kernel
theorem dX8_refusedWith_2 : decode cX8_refusedWith 2 = .ok (.istore 5, 2) := by decide +kernel
theorem dX8_refusedWith_4 : decode cX8_refusedWith 4 = .ok (.iconst 0, 1) := by decide +kernel
theorem dX8_refusedWith_5 : decode cX8_refusedWith 5 = .ok (.istore 6, 2) := by decide +kernel
theorem dX8_refusedWith_7 : decode cX8_refusedWith 7 = .ok (.iload 6, 2) := by decide +kernel
theorem dX8_refusedWith_9 : decode cX8_refusedWith 9 = .ok (.aload_n 0, 1) := by decide +kernel
theorem dX8_refusedWith_10 : decode cX8_refusedWith 10 = .ok (.getfield 7, 3) := by decide +kernel
theorem dX8_refusedWith_13 : decode cX8_refusedWith 13 = .ok (.iload_n 1, 1) := by decide +kernel
theorem dX8_refusedWith_14 : decode cX8_refusedWith 14 = .ok (.bipush 11, 2) := by decide +kernel
theorem dX8_refusedWith_16 : decode cX8_refusedWith 16 = .ok (.iadd, 1) := by decide +kernel
theorem dX8_refusedWith_17 : decode cX8_refusedWith 17 = .ok (.iaload, 1) := by decide +kernel
theorem dX8_refusedWith_18 : decode cX8_refusedWith 18 = .ok (.if_icmp .ge 101, 3) := by decide +kernel
theorem dX8_refusedWith_21 : decode cX8_refusedWith 21 = .ok (.iload_n 1, 1) := by decide +kernel
theorem dX8_refusedWith_22 : decode cX8_refusedWith 22 = .ok (.sipush 144, 3) := by decide +kernel
theorem dX8_refusedWith_25 : decode cX8_refusedWith 25 = .ok (.iadd, 1) := by decide +kernel
theorem dX8_refusedWith_26 : decode cX8_refusedWith 26 = .ok (.iconst 4, 1) := by decide +kernel
theorem dX8_refusedWith_27 : decode cX8_refusedWith 27 = .ok (.iload 6, 2) := by decide +kernel
theorem dX8_refusedWith_29 : decode cX8_refusedWith 29 = .ok (.imul, 1) := by decide +kernel
theorem dX8_refusedWith_30 : decode cX8_refusedWith 30 = .ok (.iadd, 1) := by decide +kernel
theorem dX8_refusedWith_31 : decode cX8_refusedWith 31 = .ok (.istore 7, 2) := by decide +kernel
theorem dX8_refusedWith_33 : decode cX8_refusedWith 33 = .ok (.aload_n 0, 1) := by decide +kernel
theorem dX8_refusedWith_34 : decode cX8_refusedWith 34 = .ok (.getfield 7, 3) := by decide +kernel
theorem dX8_refusedWith_37 : decode cX8_refusedWith 37 = .ok (.iload 7, 2) := by decide +kernel
theorem dX8_refusedWith_39 : decode cX8_refusedWith 39 = .ok (.iaload, 1) := by decide +kernel
theorem dX8_refusedWith_40 : decode cX8_refusedWith 40 = .ok (.iload_n 2, 1) := by decide +kernel
theorem dX8_refusedWith_41 : decode cX8_refusedWith 41 = .ok (.if_icmp .ne 34, 3) := by decide +kernel
theorem dX8_refusedWith_44 : decode cX8_refusedWith 44 = .ok (.aload_n 0, 1) := by decide +kernel
theorem dX8_refusedWith_45 : decode cX8_refusedWith 45 = .ok (.getfield 7, 3) := by decide +kernel
theorem dX8_refusedWith_48 : decode cX8_refusedWith 48 = .ok (.iload 7, 2) := by decide +kernel
theorem dX8_refusedWith_50 : decode cX8_refusedWith 50 = .ok (.iconst 1, 1) := by decide +kernel
theorem dX8_refusedWith_51 : decode cX8_refusedWith 51 = .ok (.iadd, 1) := by decide +kernel
theorem dX8_refusedWith_52 : decode cX8_refusedWith 52 = .ok (.iaload, 1) := by decide +kernel
theorem dX8_refusedWith_53 : decode cX8_refusedWith 53 = .ok (.iload_n 3, 1) := by decide +kernel
theorem dX8_refusedWith_54 : decode cX8_refusedWith 54 = .ok (.if_icmp .ne 21, 3) := by decide +kernel
theorem dX8_refusedWith_57 : decode cX8_refusedWith 57 = .ok (.aload_n 0, 1) := by decide +kernel
theorem dX8_refusedWith_58 : decode cX8_refusedWith 58 = .ok (.getfield 7, 3) := by decide +kernel
theorem dX8_refusedWith_61 : decode cX8_refusedWith 61 = .ok (.iload 7, 2) := by decide +kernel
theorem dX8_refusedWith_63 : decode cX8_refusedWith 63 = .ok (.iconst 2, 1) := by decide +kernel
theorem dX8_refusedWith_64 : decode cX8_refusedWith 64 = .ok (.iadd, 1) := by decide +kernel
theorem dX8_refusedWith_65 : decode cX8_refusedWith 65 = .ok (.iaload, 1) := by decide +kernel
theorem dX8_refusedWith_66 : decode cX8_refusedWith 66 = .ok (.iload 4, 2) := by decide +kernel
theorem dX8_refusedWith_68 : decode cX8_refusedWith 68 = .ok (.if_icmp .ne 7, 3) := by decide +kernel
theorem dX8_refusedWith_71 : decode cX8_refusedWith 71 = .ok (.iconst 1, 1) := by decide +kernel
theorem dX8_refusedWith_72 : decode cX8_refusedWith 72 = .ok (.goto 4, 3) := by decide +kernel
theorem dX8_refusedWith_75 : decode cX8_refusedWith 75 = .ok (.iconst 0, 1) := by decide +kernel
theorem dX8_refusedWith_76 : decode cX8_refusedWith 76 = .ok (.istore 8, 2) := by decide +kernel
theorem dX8_refusedWith_78 : decode cX8_refusedWith 78 = .ok (.iload 8, 2) := by decide +kernel
theorem dX8_refusedWith_80 : decode cX8_refusedWith 80 = .ok (.ifCond .eq 29, 3) := by decide +kernel
theorem dX8_refusedWith_83 : decode cX8_refusedWith 83 = .ok (.aload_n 0, 1) := by decide +kernel
theorem dX8_refusedWith_84 : decode cX8_refusedWith 84 = .ok (.getfield 7, 3) := by decide +kernel
theorem dX8_refusedWith_87 : decode cX8_refusedWith 87 = .ok (.iload 7, 2) := by decide +kernel
theorem dX8_refusedWith_89 : decode cX8_refusedWith 89 = .ok (.iconst 3, 1) := by decide +kernel
theorem dX8_refusedWith_90 : decode cX8_refusedWith 90 = .ok (.iadd, 1) := by decide +kernel
theorem dX8_refusedWith_91 : decode cX8_refusedWith 91 = .ok (.iaload, 1) := by decide +kernel
theorem dX8_refusedWith_92 : decode cX8_refusedWith 92 = .ok (.iload 5, 2) := by decide +kernel
theorem dX8_refusedWith_94 : decode cX8_refusedWith 94 = .ok (.if_icmp .le 15, 3) := by decide +kernel
theorem dX8_refusedWith_97 : decode cX8_refusedWith 97 = .ok (.aload_n 0, 1) := by decide +kernel
theorem dX8_refusedWith_98 : decode cX8_refusedWith 98 = .ok (.getfield 7, 3) := by decide +kernel
theorem dX8_refusedWith_101 : decode cX8_refusedWith 101 = .ok (.iload 7, 2) := by decide +kernel
theorem dX8_refusedWith_103 : decode cX8_refusedWith 103 = .ok (.iconst 3, 1) := by decide +kernel
theorem dX8_refusedWith_104 : decode cX8_refusedWith 104 = .ok (.iadd, 1) := by decide +kernel
theorem dX8_refusedWith_105 : decode cX8_refusedWith 105 = .ok (.iaload, 1) := by decide +kernel
theorem dX8_refusedWith_106 : decode cX8_refusedWith 106 = .ok (.goto 5, 3) := by decide +kernel
theorem dX8_refusedWith_109 : decode cX8_refusedWith 109 = .ok (.iload 5, 2) := by decide +kernel
theorem dX8_refusedWith_111 : decode cX8_refusedWith 111 = .ok (.istore 5, 2) := by decide +kernel
theorem dX8_refusedWith_113 : decode cX8_refusedWith 113 = .ok (.iinc 6 1, 3) := by decide +kernel
theorem dX8_refusedWith_116 : decode cX8_refusedWith 116 = .ok (.goto (-109), 3) := by decide +kernel
theorem dX8_refusedWith_119 : decode cX8_refusedWith 119 = .ok (.iload 5, 2) := by decide +kernel
theorem dX8_refusedWith_121 : decode cX8_refusedWith 121 = .ok (.ireturn, 1) := by decide +kernel
theorem dX8_refusal_0 : decode cX8_refusal 0 = .ok (.iload_n 1, 1) := by decide +kernel
theorem dX8_refusal_1 : decode cX8_refusal 1 = .ok (.iload_n 2, 1) := by decide +kernel
theorem dX8_refusal_2 : decode cX8_refusal 2 = .ok (.invokestatic 36, 3) := by decide +kernel
theorem dX8_refusal_5 : decode cX8_refusal 5 = .ok (.istore 4, 2) := by decide +kernel
theorem dX8_refusal_7 : decode cX8_refusal 7 = .ok (.aload_n 0, 1) := by decide +kernel
theorem dX8_refusal_8 : decode cX8_refusal 8 = .ok (.getfield 7, 3) := by decide +kernel
theorem dX8_refusal_11 : decode cX8_refusal 11 = .ok (.iload 4, 2) := by decide +kernel
theorem dX8_refusal_13 : decode cX8_refusal 13 = .ok (.iconst 1, 1) := by decide +kernel
theorem dX8_refusal_14 : decode cX8_refusal 14 = .ok (.iadd, 1) := by decide +kernel
theorem dX8_refusal_15 : decode cX8_refusal 15 = .ok (.iaload, 1) := by decide +kernel
theorem dX8_refusal_16 : decode cX8_refusal 16 = .ok (.istore 5, 2) := by decide +kernel
theorem dX8_refusal_18 : decode cX8_refusal 18 = .ok (.aload_n 0, 1) := by decide +kernel
theorem dX8_refusal_19 : decode cX8_refusal 19 = .ok (.getfield 7, 3) := by decide +kernel
theorem dX8_refusal_22 : decode cX8_refusal 22 = .ok (.iload 4, 2) := by decide +kernel
theorem dX8_refusal_24 : decode cX8_refusal 24 = .ok (.iconst 2, 1) := by decide +kernel
theorem dX8_refusal_25 : decode cX8_refusal 25 = .ok (.iadd, 1) := by decide +kernel
theorem dX8_refusal_26 : decode cX8_refusal 26 = .ok (.iaload, 1) := by decide +kernel
theorem dX8_refusal_27 : decode cX8_refusal 27 = .ok (.istore 6, 2) := by decide +kernel
theorem dX8_refusal_29 : decode cX8_refusal 29 = .ok (.aload_n 0, 1) := by decide +kernel
theorem dX8_refusal_30 : decode cX8_refusal 30 = .ok (.getfield 7, 3) := by decide +kernel
theorem dX8_refusal_33 : decode cX8_refusal 33 = .ok (.iload 4, 2) := by decide +kernel
theorem dX8_refusal_35 : decode cX8_refusal 35 = .ok (.iconst 3, 1) := by decide +kernel
theorem dX8_refusal_36 : decode cX8_refusal 36 = .ok (.iadd, 1) := by decide +kernel
theorem dX8_refusal_37 : decode cX8_refusal 37 = .ok (.iaload, 1) := by decide +kernel
theorem dX8_refusal_38 : decode cX8_refusal 38 = .ok (.istore 7, 2) := by decide +kernel
theorem dX8_refusal_40 : decode cX8_refusal 40 = .ok (.iload_n 1, 1) := by decide +kernel
theorem dX8_refusal_41 : decode cX8_refusal 41 = .ok (.iload 5, 2) := by decide +kernel
theorem dX8_refusal_43 : decode cX8_refusal 43 = .ok (.iload 6, 2) := by decide +kernel
theorem dX8_refusal_45 : decode cX8_refusal 45 = .ok (.invokestatic 43, 3) := by decide +kernel
theorem dX8_refusal_48 : decode cX8_refusal 48 = .ok (.istore 8, 2) := by decide +kernel
theorem dX8_refusal_50 : decode cX8_refusal 50 = .ok (.iload_n 1, 1) := by decide +kernel
theorem dX8_refusal_51 : decode cX8_refusal 51 = .ok (.bipush 6, 2) := by decide +kernel
theorem dX8_refusal_53 : decode cX8_refusal 53 = .ok (.iload 6, 2) := by decide +kernel
theorem dX8_refusal_55 : decode cX8_refusal 55 = .ok (.invokestatic 43, 3) := by decide +kernel
theorem dX8_refusal_58 : decode cX8_refusal 58 = .ok (.istore 9, 2) := by decide +kernel
theorem dX8_refusal_60 : decode cX8_refusal 60 = .ok (.iload 7, 2) := by decide +kernel
theorem dX8_refusal_62 : decode cX8_refusal 62 = .ok (.iconst 2, 1) := by decide +kernel
theorem dX8_refusal_63 : decode cX8_refusal 63 = .ok (.if_icmp .ne 7, 3) := by decide +kernel
theorem dX8_refusal_66 : decode cX8_refusal 66 = .ok (.iconst 1, 1) := by decide +kernel
theorem dX8_refusal_67 : decode cX8_refusal 67 = .ok (.goto 4, 3) := by decide +kernel
theorem dX8_refusal_70 : decode cX8_refusal 70 = .ok (.iconst 0, 1) := by decide +kernel
theorem dX8_refusal_71 : decode cX8_refusal 71 = .ok (.istore 10, 2) := by decide +kernel
theorem dX8_refusal_73 : decode cX8_refusal 73 = .ok (.iload_n 3, 1) := by decide +kernel
theorem dX8_refusal_74 : decode cX8_refusal 74 = .ok (.aload_n 0, 1) := by decide +kernel
theorem dX8_refusal_75 : decode cX8_refusal 75 = .ok (.getfield 7, 3) := by decide +kernel
theorem dX8_refusal_78 : decode cX8_refusal 78 = .ok (.iload_n 1, 1) := by decide +kernel
theorem dX8_refusal_79 : decode cX8_refusal 79 = .ok (.iconst 0, 1) := by decide +kernel
theorem dX8_refusal_80 : decode cX8_refusal 80 = .ok (.iadd, 1) := by decide +kernel
theorem dX8_refusal_81 : decode cX8_refusal 81 = .ok (.iaload, 1) := by decide +kernel
theorem dX8_refusal_82 : decode cX8_refusal 82 = .ok (.if_icmp .ge 5, 3) := by decide +kernel
theorem dX8_refusal_85 : decode cX8_refusal 85 = .ok (.iconst 1, 1) := by decide +kernel
theorem dX8_refusal_86 : decode cX8_refusal 86 = .ok (.ireturn, 1) := by decide +kernel
theorem dX8_refusal_87 : decode cX8_refusal 87 = .ok (.iload_n 3, 1) := by decide +kernel
theorem dX8_refusal_88 : decode cX8_refusal 88 = .ok (.aload_n 0, 1) := by decide +kernel
theorem dX8_refusal_89 : decode cX8_refusal 89 = .ok (.iload_n 1, 1) := by decide +kernel
theorem dX8_refusal_90 : decode cX8_refusal 90 = .ok (.iload 5, 2) := by decide +kernel
theorem dX8_refusal_92 : decode cX8_refusal 92 = .ok (.iload 6, 2) := by decide +kernel
theorem dX8_refusal_94 : decode cX8_refusal 94 = .ok (.iload 7, 2) := by decide +kernel
theorem dX8_refusal_96 : decode cX8_refusal 96 = .ok (.invokevirtual 47, 3) := by decide +kernel
theorem dX8_refusal_99 : decode cX8_refusal 99 = .ok (.if_icmp .gt 5, 3) := by decide +kernel
theorem dX8_refusal_102 : decode cX8_refusal 102 = .ok (.iconst 2, 1) := by decide +kernel
theorem dX8_refusal_103 : decode cX8_refusal 103 = .ok (.ireturn, 1) := by decide +kernel
theorem dX8_refusal_104 : decode cX8_refusal 104 = .ok (.iload 5, 2) := by decide +kernel
theorem dX8_refusal_106 : decode cX8_refusal 106 = .ok (.bipush 6, 2) := by decide +kernel
theorem dX8_refusal_108 : decode cX8_refusal 108 = .ok (.if_icmp .eq 47, 3) := by decide +kernel
theorem dX8_refusal_111 : decode cX8_refusal 111 = .ok (.iload 10, 2) := by decide +kernel
theorem dX8_refusal_113 : decode cX8_refusal 113 = .ok (.ifCond .ne 42, 3) := by decide +kernel
theorem dX8_refusal_116 : decode cX8_refusal 116 = .ok (.aload_n 0, 1) := by decide +kernel
theorem dX8_refusal_117 : decode cX8_refusal 117 = .ok (.getfield 7, 3) := by decide +kernel
theorem dX8_refusal_120 : decode cX8_refusal 120 = .ok (.iload 9, 2) := by decide +kernel
theorem dX8_refusal_122 : decode cX8_refusal 122 = .ok (.iaload, 1) := by decide +kernel
theorem dX8_refusal_123 : decode cX8_refusal 123 = .ok (.bipush (-5), 2) := by decide +kernel
theorem dX8_refusal_125 : decode cX8_refusal 125 = .ok (.if_icmp .eq 30, 3) := by decide +kernel
theorem dX8_refusal_128 : decode cX8_refusal 128 = .ok (.aload_n 0, 1) := by decide +kernel
theorem dX8_refusal_129 : decode cX8_refusal 129 = .ok (.getfield 7, 3) := by decide +kernel
theorem dX8_refusal_132 : decode cX8_refusal 132 = .ok (.iload 9, 2) := by decide +kernel
theorem dX8_refusal_134 : decode cX8_refusal 134 = .ok (.iaload, 1) := by decide +kernel
theorem dX8_refusal_135 : decode cX8_refusal 135 = .ok (.iload 7, 2) := by decide +kernel
theorem dX8_refusal_137 : decode cX8_refusal 137 = .ok (.if_icmp .eq 18, 3) := by decide +kernel
theorem dX8_refusal_140 : decode cX8_refusal 140 = .ok (.aload_n 0, 1) := by decide +kernel
theorem dX8_refusal_141 : decode cX8_refusal 141 = .ok (.getfield 7, 3) := by decide +kernel
theorem dX8_refusal_144 : decode cX8_refusal 144 = .ok (.iload 9, 2) := by decide +kernel
theorem dX8_refusal_146 : decode cX8_refusal 146 = .ok (.iconst 1, 1) := by decide +kernel
theorem dX8_refusal_147 : decode cX8_refusal 147 = .ok (.iadd, 1) := by decide +kernel
theorem dX8_refusal_148 : decode cX8_refusal 148 = .ok (.iaload, 1) := by decide +kernel
theorem dX8_refusal_149 : decode cX8_refusal 149 = .ok (.iload_n 3, 1) := by decide +kernel
theorem dX8_refusal_150 : decode cX8_refusal 150 = .ok (.if_icmp .le 5, 3) := by decide +kernel
theorem dX8_refusal_153 : decode cX8_refusal 153 = .ok (.iconst 3, 1) := by decide +kernel
theorem dX8_refusal_154 : decode cX8_refusal 154 = .ok (.ireturn, 1) := by decide +kernel
theorem dX8_refusal_155 : decode cX8_refusal 155 = .ok (.iload 10, 2) := by decide +kernel
theorem dX8_refusal_157 : decode cX8_refusal 157 = .ok (.ifCond .eq 18, 3) := by decide +kernel
theorem dX8_refusal_160 : decode cX8_refusal 160 = .ok (.aload_n 0, 1) := by decide +kernel
theorem dX8_refusal_161 : decode cX8_refusal 161 = .ok (.getfield 7, 3) := by decide +kernel
theorem dX8_refusal_164 : decode cX8_refusal 164 = .ok (.iload 8, 2) := by decide +kernel
theorem dX8_refusal_166 : decode cX8_refusal 166 = .ok (.iaload, 1) := by decide +kernel
theorem dX8_refusal_167 : decode cX8_refusal 167 = .ok (.bipush (-5), 2) := by decide +kernel
theorem dX8_refusal_169 : decode cX8_refusal 169 = .ok (.if_icmp .ne 33, 3) := by decide +kernel
theorem dX8_refusal_172 : decode cX8_refusal 172 = .ok (.goto 28, 3) := by decide +kernel
theorem dX8_refusal_175 : decode cX8_refusal 175 = .ok (.aload_n 0, 1) := by decide +kernel
theorem dX8_refusal_176 : decode cX8_refusal 176 = .ok (.getfield 7, 3) := by decide +kernel
theorem dX8_refusal_179 : decode cX8_refusal 179 = .ok (.iload 8, 2) := by decide +kernel
theorem dX8_refusal_181 : decode cX8_refusal 181 = .ok (.iaload, 1) := by decide +kernel
theorem dX8_refusal_182 : decode cX8_refusal 182 = .ok (.iload 7, 2) := by decide +kernel
theorem dX8_refusal_184 : decode cX8_refusal 184 = .ok (.if_icmp .ne 18, 3) := by decide +kernel
theorem dX8_refusal_187 : decode cX8_refusal 187 = .ok (.aload_n 0, 1) := by decide +kernel
theorem dX8_refusal_188 : decode cX8_refusal 188 = .ok (.getfield 7, 3) := by decide +kernel
theorem dX8_refusal_191 : decode cX8_refusal 191 = .ok (.iload 8, 2) := by decide +kernel
theorem dX8_refusal_193 : decode cX8_refusal 193 = .ok (.iconst 1, 1) := by decide +kernel
theorem dX8_refusal_194 : decode cX8_refusal 194 = .ok (.iadd, 1) := by decide +kernel
theorem dX8_refusal_195 : decode cX8_refusal 195 = .ok (.iaload, 1) := by decide +kernel
theorem dX8_refusal_196 : decode cX8_refusal 196 = .ok (.iload_n 3, 1) := by decide +kernel
theorem dX8_refusal_197 : decode cX8_refusal 197 = .ok (.if_icmp .lt 5, 3) := by decide +kernel
theorem dX8_refusal_200 : decode cX8_refusal 200 = .ok (.iconst 4, 1) := by decide +kernel
theorem dX8_refusal_201 : decode cX8_refusal 201 = .ok (.ireturn, 1) := by decide +kernel
theorem dX8_refusal_202 : decode cX8_refusal 202 = .ok (.iload 10, 2) := by decide +kernel
theorem dX8_refusal_204 : decode cX8_refusal 204 = .ok (.ifCond .eq 20, 3) := by decide +kernel
theorem dX8_refusal_207 : decode cX8_refusal 207 = .ok (.iconst 2, 1) := by decide +kernel
theorem dX8_refusal_208 : decode cX8_refusal 208 = .ok (.iload_n 3, 1) := by decide +kernel
theorem dX8_refusal_209 : decode cX8_refusal 209 = .ok (.imul, 1) := by decide +kernel
theorem dX8_refusal_210 : decode cX8_refusal 210 = .ok (.aload_n 0, 1) := by decide +kernel
theorem dX8_refusal_211 : decode cX8_refusal 211 = .ok (.iload_n 1, 1) := by decide +kernel
theorem dX8_refusal_212 : decode cX8_refusal 212 = .ok (.iload 5, 2) := by decide +kernel
theorem dX8_refusal_214 : decode cX8_refusal 214 = .ok (.invokevirtual 51, 3) := by decide +kernel
theorem dX8_refusal_217 : decode cX8_refusal 217 = .ok (.if_icmp .gt 7, 3) := by decide +kernel
theorem dX8_refusal_220 : decode cX8_refusal 220 = .ok (.iconst 5, 1) := by decide +kernel
theorem dX8_refusal_221 : decode cX8_refusal 221 = .ok (.goto 4, 3) := by decide +kernel
theorem dX8_refusal_224 : decode cX8_refusal 224 = .ok (.iconst 0, 1) := by decide +kernel
theorem dX8_refusal_225 : decode cX8_refusal 225 = .ok (.ireturn, 1) := by decide +kernel
theorem dX8_passes_0 : decode cX8_passes 0 = .ok (.iload_n 1, 1) := by decide +kernel
theorem dX8_passes_1 : decode cX8_passes 1 = .ok (.iload_n 2, 1) := by decide +kernel
theorem dX8_passes_2 : decode cX8_passes 2 = .ok (.invokestatic 36, 3) := by decide +kernel
theorem dX8_passes_5 : decode cX8_passes 5 = .ok (.istore 4, 2) := by decide +kernel
theorem dX8_passes_7 : decode cX8_passes 7 = .ok (.iload_n 1, 1) := by decide +kernel
theorem dX8_passes_8 : decode cX8_passes 8 = .ok (.aload_n 0, 1) := by decide +kernel
theorem dX8_passes_9 : decode cX8_passes 9 = .ok (.getfield 7, 3) := by decide +kernel
theorem dX8_passes_12 : decode cX8_passes 12 = .ok (.iload 4, 2) := by decide +kernel
theorem dX8_passes_14 : decode cX8_passes 14 = .ok (.iconst 1, 1) := by decide +kernel
theorem dX8_passes_15 : decode cX8_passes 15 = .ok (.iadd, 1) := by decide +kernel
theorem dX8_passes_16 : decode cX8_passes 16 = .ok (.iaload, 1) := by decide +kernel
theorem dX8_passes_17 : decode cX8_passes 17 = .ok (.aload_n 0, 1) := by decide +kernel
theorem dX8_passes_18 : decode cX8_passes 18 = .ok (.getfield 7, 3) := by decide +kernel
theorem dX8_passes_21 : decode cX8_passes 21 = .ok (.iload 4, 2) := by decide +kernel
theorem dX8_passes_23 : decode cX8_passes 23 = .ok (.iconst 2, 1) := by decide +kernel
theorem dX8_passes_24 : decode cX8_passes 24 = .ok (.iadd, 1) := by decide +kernel
theorem dX8_passes_25 : decode cX8_passes 25 = .ok (.iaload, 1) := by decide +kernel
theorem dX8_passes_26 : decode cX8_passes 26 = .ok (.invokestatic 43, 3) := by decide +kernel
theorem dX8_passes_29 : decode cX8_passes 29 = .ok (.istore 5, 2) := by decide +kernel
theorem dX8_passes_31 : decode cX8_passes 31 = .ok (.aload_n 0, 1) := by decide +kernel
theorem dX8_passes_32 : decode cX8_passes 32 = .ok (.getfield 7, 3) := by decide +kernel
theorem dX8_passes_35 : decode cX8_passes 35 = .ok (.iload 4, 2) := by decide +kernel
theorem dX8_passes_37 : decode cX8_passes 37 = .ok (.iconst 3, 1) := by decide +kernel
theorem dX8_passes_38 : decode cX8_passes 38 = .ok (.iadd, 1) := by decide +kernel
theorem dX8_passes_39 : decode cX8_passes 39 = .ok (.iaload, 1) := by decide +kernel
theorem dX8_passes_40 : decode cX8_passes 40 = .ok (.iconst 2, 1) := by decide +kernel
theorem dX8_passes_41 : decode cX8_passes 41 = .ok (.if_icmp .ne 7, 3) := by decide +kernel
theorem dX8_passes_44 : decode cX8_passes 44 = .ok (.iconst 1, 1) := by decide +kernel
theorem dX8_passes_45 : decode cX8_passes 45 = .ok (.goto 4, 3) := by decide +kernel
theorem dX8_passes_48 : decode cX8_passes 48 = .ok (.iconst 0, 1) := by decide +kernel
theorem dX8_passes_49 : decode cX8_passes 49 = .ok (.istore 6, 2) := by decide +kernel
theorem dX8_passes_51 : decode cX8_passes 51 = .ok (.aload_n 0, 1) := by decide +kernel
theorem dX8_passes_52 : decode cX8_passes 52 = .ok (.getfield 7, 3) := by decide +kernel
theorem dX8_passes_55 : decode cX8_passes 55 = .ok (.iload 5, 2) := by decide +kernel
theorem dX8_passes_57 : decode cX8_passes 57 = .ok (.iload 6, 2) := by decide +kernel
theorem dX8_passes_59 : decode cX8_passes 59 = .ok (.ifCond .eq 8, 3) := by decide +kernel
theorem dX8_passes_62 : decode cX8_passes 62 = .ok (.bipush (-5), 2) := by decide +kernel
theorem dX8_passes_64 : decode cX8_passes 64 = .ok (.goto 12, 3) := by decide +kernel
theorem dX8_passes_67 : decode cX8_passes 67 = .ok (.aload_n 0, 1) := by decide +kernel
theorem dX8_passes_68 : decode cX8_passes 68 = .ok (.getfield 7, 3) := by decide +kernel
theorem dX8_passes_71 : decode cX8_passes 71 = .ok (.iload 4, 2) := by decide +kernel
theorem dX8_passes_73 : decode cX8_passes 73 = .ok (.iconst 3, 1) := by decide +kernel
theorem dX8_passes_74 : decode cX8_passes 74 = .ok (.iadd, 1) := by decide +kernel
theorem dX8_passes_75 : decode cX8_passes 75 = .ok (.iaload, 1) := by decide +kernel
theorem dX8_passes_76 : decode cX8_passes 76 = .ok (.iastore, 1) := by decide +kernel
theorem dX8_passes_77 : decode cX8_passes 77 = .ok (.aload_n 0, 1) := by decide +kernel
theorem dX8_passes_78 : decode cX8_passes 78 = .ok (.getfield 7, 3) := by decide +kernel
theorem dX8_passes_81 : decode cX8_passes 81 = .ok (.iload 5, 2) := by decide +kernel
theorem dX8_passes_83 : decode cX8_passes 83 = .ok (.iconst 1, 1) := by decide +kernel
theorem dX8_passes_84 : decode cX8_passes 84 = .ok (.iadd, 1) := by decide +kernel
theorem dX8_passes_85 : decode cX8_passes 85 = .ok (.iload_n 3, 1) := by decide +kernel
theorem dX8_passes_86 : decode cX8_passes 86 = .ok (.iastore, 1) := by decide +kernel
theorem dX8_passes_87 : decode cX8_passes 87 = .ok (.aload_n 0, 1) := by decide +kernel
theorem dX8_passes_88 : decode cX8_passes 88 = .ok (.getfield 7, 3) := by decide +kernel
theorem dX8_passes_91 : decode cX8_passes 91 = .ok (.iload 5, 2) := by decide +kernel
theorem dX8_passes_93 : decode cX8_passes 93 = .ok (.iconst 2, 1) := by decide +kernel
theorem dX8_passes_94 : decode cX8_passes 94 = .ok (.iadd, 1) := by decide +kernel
theorem dX8_passes_95 : decode cX8_passes 95 = .ok (.aload_n 0, 1) := by decide +kernel
theorem dX8_passes_96 : decode cX8_passes 96 = .ok (.getfield 7, 3) := by decide +kernel
theorem dX8_passes_99 : decode cX8_passes 99 = .ok (.iload_n 1, 1) := by decide +kernel
theorem dX8_passes_100 : decode cX8_passes 100 = .ok (.iconst 3, 1) := by decide +kernel
theorem dX8_passes_101 : decode cX8_passes 101 = .ok (.iadd, 1) := by decide +kernel
theorem dX8_passes_102 : decode cX8_passes 102 = .ok (.iaload, 1) := by decide +kernel
theorem dX8_passes_103 : decode cX8_passes 103 = .ok (.iastore, 1) := by decide +kernel
theorem dX8_passes_104 : decode cX8_passes 104 = .ok (.aload_n 0, 1) := by decide +kernel
theorem dX8_passes_105 : decode cX8_passes 105 = .ok (.getfield 7, 3) := by decide +kernel
theorem dX8_passes_108 : decode cX8_passes 108 = .ok (.iload_n 1, 1) := by decide +kernel
theorem dX8_passes_109 : decode cX8_passes 109 = .ok (.bipush 10, 2) := by decide +kernel
theorem dX8_passes_111 : decode cX8_passes 111 = .ok (.iadd, 1) := by decide +kernel
theorem dX8_passes_112 : decode cX8_passes 112 = .ok (.dup2, 1) := by decide +kernel
theorem dX8_passes_113 : decode cX8_passes 113 = .ok (.iaload, 1) := by decide +kernel
theorem dX8_passes_114 : decode cX8_passes 114 = .ok (.iload 6, 2) := by decide +kernel
theorem dX8_passes_116 : decode cX8_passes 116 = .ok (.invokestatic 54, 3) := by decide +kernel
theorem dX8_passes_119 : decode cX8_passes 119 = .ok (.iadd, 1) := by decide +kernel
theorem dX8_passes_120 : decode cX8_passes 120 = .ok (.iastore, 1) := by decide +kernel
theorem dX8_passes_121 : decode cX8_passes 121 = .ok (.return_, 1) := by decide +kernel
theorem dX8_sorts_0 : decode cX8_sorts 0 = .ok (.iconst 0, 1) := by decide +kernel
theorem dX8_sorts_1 : decode cX8_sorts 1 = .ok (.istore_n 2, 1) := by decide +kernel
theorem dX8_sorts_2 : decode cX8_sorts 2 = .ok (.iload_n 2, 1) := by decide +kernel
theorem dX8_sorts_3 : decode cX8_sorts 3 = .ok (.aload_n 0, 1) := by decide +kernel
theorem dX8_sorts_4 : decode cX8_sorts 4 = .ok (.getfield 7, 3) := by decide +kernel
theorem dX8_sorts_7 : decode cX8_sorts 7 = .ok (.iload_n 1, 1) := by decide +kernel
theorem dX8_sorts_8 : decode cX8_sorts 8 = .ok (.bipush 6, 2) := by decide +kernel
theorem dX8_sorts_10 : decode cX8_sorts 10 = .ok (.iadd, 1) := by decide +kernel
theorem dX8_sorts_11 : decode cX8_sorts 11 = .ok (.iaload, 1) := by decide +kernel
theorem dX8_sorts_12 : decode cX8_sorts 12 = .ok (.if_icmp .ge 64, 3) := by decide +kernel
theorem dX8_sorts_15 : decode cX8_sorts 15 = .ok (.iload_n 2, 1) := by decide +kernel
theorem dX8_sorts_16 : decode cX8_sorts 16 = .ok (.istore_n 3, 1) := by decide +kernel
theorem dX8_sorts_17 : decode cX8_sorts 17 = .ok (.iload_n 3, 1) := by decide +kernel
theorem dX8_sorts_18 : decode cX8_sorts 18 = .ok (.ifCond .le 45, 3) := by decide +kernel
theorem dX8_sorts_21 : decode cX8_sorts 21 = .ok (.aload_n 0, 1) := by decide +kernel
theorem dX8_sorts_22 : decode cX8_sorts 22 = .ok (.iload_n 1, 1) := by decide +kernel
theorem dX8_sorts_23 : decode cX8_sorts 23 = .ok (.aload_n 0, 1) := by decide +kernel
theorem dX8_sorts_24 : decode cX8_sorts 24 = .ok (.getfield 23, 3) := by decide +kernel
theorem dX8_sorts_27 : decode cX8_sorts 27 = .ok (.iload_n 3, 1) := by decide +kernel
theorem dX8_sorts_28 : decode cX8_sorts 28 = .ok (.iconst 1, 1) := by decide +kernel
theorem dX8_sorts_29 : decode cX8_sorts 29 = .ok (.isub, 1) := by decide +kernel
theorem dX8_sorts_30 : decode cX8_sorts 30 = .ok (.iaload, 1) := by decide +kernel
theorem dX8_sorts_31 : decode cX8_sorts 31 = .ok (.invokevirtual 58, 3) := by decide +kernel
theorem dX8_sorts_34 : decode cX8_sorts 34 = .ok (.aload_n 0, 1) := by decide +kernel
theorem dX8_sorts_35 : decode cX8_sorts 35 = .ok (.iload_n 1, 1) := by decide +kernel
theorem dX8_sorts_36 : decode cX8_sorts 36 = .ok (.iload_n 2, 1) := by decide +kernel
theorem dX8_sorts_37 : decode cX8_sorts 37 = .ok (.invokevirtual 58, 3) := by decide +kernel
theorem dX8_sorts_40 : decode cX8_sorts 40 = .ok (.if_icmp .ge 23, 3) := by decide +kernel
theorem dX8_sorts_43 : decode cX8_sorts 43 = .ok (.aload_n 0, 1) := by decide +kernel
theorem dX8_sorts_44 : decode cX8_sorts 44 = .ok (.getfield 23, 3) := by decide +kernel
theorem dX8_sorts_47 : decode cX8_sorts 47 = .ok (.iload_n 3, 1) := by decide +kernel
theorem dX8_sorts_48 : decode cX8_sorts 48 = .ok (.aload_n 0, 1) := by decide +kernel
theorem dX8_sorts_49 : decode cX8_sorts 49 = .ok (.getfield 23, 3) := by decide +kernel
theorem dX8_sorts_52 : decode cX8_sorts 52 = .ok (.iload_n 3, 1) := by decide +kernel
theorem dX8_sorts_53 : decode cX8_sorts 53 = .ok (.iconst 1, 1) := by decide +kernel
theorem dX8_sorts_54 : decode cX8_sorts 54 = .ok (.isub, 1) := by decide +kernel
theorem dX8_sorts_55 : decode cX8_sorts 55 = .ok (.iaload, 1) := by decide +kernel
theorem dX8_sorts_56 : decode cX8_sorts 56 = .ok (.iastore, 1) := by decide +kernel
theorem dX8_sorts_57 : decode cX8_sorts 57 = .ok (.iinc 3 (-1), 3) := by decide +kernel
theorem dX8_sorts_60 : decode cX8_sorts 60 = .ok (.goto (-43), 3) := by decide +kernel
theorem dX8_sorts_63 : decode cX8_sorts 63 = .ok (.aload_n 0, 1) := by decide +kernel
theorem dX8_sorts_64 : decode cX8_sorts 64 = .ok (.getfield 23, 3) := by decide +kernel
theorem dX8_sorts_67 : decode cX8_sorts 67 = .ok (.iload_n 3, 1) := by decide +kernel
theorem dX8_sorts_68 : decode cX8_sorts 68 = .ok (.iload_n 2, 1) := by decide +kernel
theorem dX8_sorts_69 : decode cX8_sorts 69 = .ok (.iastore, 1) := by decide +kernel
theorem dX8_sorts_70 : decode cX8_sorts 70 = .ok (.iinc 2 1, 3) := by decide +kernel
theorem dX8_sorts_73 : decode cX8_sorts 73 = .ok (.goto (-71), 3) := by decide +kernel
theorem dX8_sorts_76 : decode cX8_sorts 76 = .ok (.return_, 1) := by decide +kernel
theorem dX8_hears_0 : decode cX8_hears 0 = .ok (.aload_n 0, 1) := by decide +kernel
theorem dX8_hears_1 : decode cX8_hears 1 = .ok (.getfield 7, 3) := by decide +kernel
theorem dX8_hears_4 : decode cX8_hears 4 = .ok (.iload_n 1, 1) := by decide +kernel
theorem dX8_hears_5 : decode cX8_hears 5 = .ok (.bipush 6, 2) := by decide +kernel
theorem dX8_hears_7 : decode cX8_hears 7 = .ok (.iadd, 1) := by decide +kernel
theorem dX8_hears_8 : decode cX8_hears 8 = .ok (.iaload, 1) := by decide +kernel
theorem dX8_hears_9 : decode cX8_hears 9 = .ok (.istore_n 2, 1) := by decide +kernel
theorem dX8_hears_10 : decode cX8_hears 10 = .ok (.iconst 0, 1) := by decide +kernel
theorem dX8_hears_11 : decode cX8_hears 11 = .ok (.istore_n 3, 1) := by decide +kernel
theorem dX8_hears_12 : decode cX8_hears 12 = .ok (.aload_n 0, 1) := by decide +kernel
theorem dX8_hears_13 : decode cX8_hears 13 = .ok (.iload_n 1, 1) := by decide +kernel
theorem dX8_hears_14 : decode cX8_hears 14 = .ok (.invokevirtual 61, 3) := by decide +kernel
theorem dX8_hears_17 : decode cX8_hears 17 = .ok (.iconst 0, 1) := by decide +kernel
theorem dX8_hears_18 : decode cX8_hears 18 = .ok (.istore 4, 2) := by decide +kernel
theorem dX8_hears_20 : decode cX8_hears 20 = .ok (.iload 4, 2) := by decide +kernel
theorem dX8_hears_22 : decode cX8_hears 22 = .ok (.iload_n 2, 1) := by decide +kernel
theorem dX8_hears_23 : decode cX8_hears 23 = .ok (.if_icmp .ge 64, 3) := by decide +kernel
theorem dX8_hears_26 : decode cX8_hears 26 = .ok (.aload_n 0, 1) := by decide +kernel
theorem dX8_hears_27 : decode cX8_hears 27 = .ok (.getfield 23, 3) := by decide +kernel
theorem dX8_hears_30 : decode cX8_hears 30 = .ok (.iload 4, 2) := by decide +kernel
theorem dX8_hears_32 : decode cX8_hears 32 = .ok (.iaload, 1) := by decide +kernel
theorem dX8_hears_33 : decode cX8_hears 33 = .ok (.istore 5, 2) := by decide +kernel
theorem dX8_hears_35 : decode cX8_hears 35 = .ok (.aload_n 0, 1) := by decide +kernel
theorem dX8_hears_36 : decode cX8_hears 36 = .ok (.iload_n 1, 1) := by decide +kernel
theorem dX8_hears_37 : decode cX8_hears 37 = .ok (.iload 5, 2) := by decide +kernel
theorem dX8_hears_39 : decode cX8_hears 39 = .ok (.invokevirtual 58, 3) := by decide +kernel
theorem dX8_hears_42 : decode cX8_hears 42 = .ok (.istore 6, 2) := by decide +kernel
theorem dX8_hears_44 : decode cX8_hears 44 = .ok (.aload_n 0, 1) := by decide +kernel
theorem dX8_hears_45 : decode cX8_hears 45 = .ok (.iload_n 1, 1) := by decide +kernel
theorem dX8_hears_46 : decode cX8_hears 46 = .ok (.iload 5, 2) := by decide +kernel
theorem dX8_hears_48 : decode cX8_hears 48 = .ok (.iload 6, 2) := by decide +kernel
theorem dX8_hears_50 : decode cX8_hears 50 = .ok (.invokevirtual 65, 3) := by decide +kernel
theorem dX8_hears_53 : decode cX8_hears 53 = .ok (.istore 7, 2) := by decide +kernel
theorem dX8_hears_55 : decode cX8_hears 55 = .ok (.aload_n 0, 1) := by decide +kernel
theorem dX8_hears_56 : decode cX8_hears 56 = .ok (.getfield 26, 3) := by decide +kernel
theorem dX8_hears_59 : decode cX8_hears 59 = .ok (.iload 5, 2) := by decide +kernel
theorem dX8_hears_61 : decode cX8_hears 61 = .ok (.iload 7, 2) := by decide +kernel
theorem dX8_hears_63 : decode cX8_hears 63 = .ok (.iastore, 1) := by decide +kernel
theorem dX8_hears_64 : decode cX8_hears 64 = .ok (.iload 7, 2) := by decide +kernel
theorem dX8_hears_66 : decode cX8_hears 66 = .ok (.ifCond .ne 15, 3) := by decide +kernel
theorem dX8_hears_69 : decode cX8_hears 69 = .ok (.aload_n 0, 1) := by decide +kernel
theorem dX8_hears_70 : decode cX8_hears 70 = .ok (.iload_n 1, 1) := by decide +kernel
theorem dX8_hears_71 : decode cX8_hears 71 = .ok (.iload 5, 2) := by decide +kernel
theorem dX8_hears_73 : decode cX8_hears 73 = .ok (.iload 6, 2) := by decide +kernel
theorem dX8_hears_75 : decode cX8_hears 75 = .ok (.invokevirtual 68, 3) := by decide +kernel
theorem dX8_hears_78 : decode cX8_hears 78 = .ok (.iinc 3 1, 3) := by decide +kernel
theorem dX8_hears_81 : decode cX8_hears 81 = .ok (.iinc 4 1, 3) := by decide +kernel
theorem dX8_hears_84 : decode cX8_hears 84 = .ok (.goto (-64), 3) := by decide +kernel
theorem dX8_hears_87 : decode cX8_hears 87 = .ok (.aload_n 0, 1) := by decide +kernel
theorem dX8_hears_88 : decode cX8_hears 88 = .ok (.getfield 7, 3) := by decide +kernel
theorem dX8_hears_91 : decode cX8_hears 91 = .ok (.iload_n 1, 1) := by decide +kernel
theorem dX8_hears_92 : decode cX8_hears 92 = .ok (.bipush 11, 2) := by decide +kernel
theorem dX8_hears_94 : decode cX8_hears 94 = .ok (.iadd, 1) := by decide +kernel
theorem dX8_hears_95 : decode cX8_hears 95 = .ok (.iconst 0, 1) := by decide +kernel
theorem dX8_hears_96 : decode cX8_hears 96 = .ok (.iastore, 1) := by decide +kernel
theorem dX8_hears_97 : decode cX8_hears 97 = .ok (.iconst 0, 1) := by decide +kernel
theorem dX8_hears_98 : decode cX8_hears 98 = .ok (.istore 4, 2) := by decide +kernel
theorem dX8_hears_100 : decode cX8_hears 100 = .ok (.iload 4, 2) := by decide +kernel
theorem dX8_hears_102 : decode cX8_hears 102 = .ok (.iload_n 2, 1) := by decide +kernel
theorem dX8_hears_103 : decode cX8_hears 103 = .ok (.if_icmp .ge 174, 3) := by decide +kernel
theorem dX8_hears_106 : decode cX8_hears 106 = .ok (.iload_n 1, 1) := by decide +kernel
theorem dX8_hears_107 : decode cX8_hears 107 = .ok (.iload 4, 2) := by decide +kernel
theorem dX8_hears_109 : decode cX8_hears 109 = .ok (.invokestatic 36, 3) := by decide +kernel
theorem dX8_hears_112 : decode cX8_hears 112 = .ok (.istore 5, 2) := by decide +kernel
theorem dX8_hears_114 : decode cX8_hears 114 = .ok (.iload_n 1, 1) := by decide +kernel
theorem dX8_hears_115 : decode cX8_hears 115 = .ok (.aload_n 0, 1) := by decide +kernel
theorem dX8_hears_116 : decode cX8_hears 116 = .ok (.getfield 7, 3) := by decide +kernel
theorem dX8_hears_119 : decode cX8_hears 119 = .ok (.iload 5, 2) := by decide +kernel
theorem dX8_hears_121 : decode cX8_hears 121 = .ok (.iaload, 1) := by decide +kernel
theorem dX8_hears_122 : decode cX8_hears 122 = .ok (.invokestatic 40, 3) := by decide +kernel
theorem dX8_hears_125 : decode cX8_hears 125 = .ok (.istore 6, 2) := by decide +kernel
theorem dX8_hears_127 : decode cX8_hears 127 = .ok (.aload_n 0, 1) := by decide +kernel
theorem dX8_hears_128 : decode cX8_hears 128 = .ok (.getfield 26, 3) := by decide +kernel
theorem dX8_hears_131 : decode cX8_hears 131 = .ok (.iload 4, 2) := by decide +kernel
theorem dX8_hears_133 : decode cX8_hears 133 = .ok (.iaload, 1) := by decide +kernel
theorem dX8_hears_134 : decode cX8_hears 134 = .ok (.ifCond .le 7, 3) := by decide +kernel
theorem dX8_hears_137 : decode cX8_hears 137 = .ok (.iconst 1, 1) := by decide +kernel
theorem dX8_hears_138 : decode cX8_hears 138 = .ok (.goto 4, 3) := by decide +kernel
theorem dX8_hears_141 : decode cX8_hears 141 = .ok (.iconst 0, 1) := by decide +kernel
theorem dX8_hears_142 : decode cX8_hears 142 = .ok (.istore 7, 2) := by decide +kernel
theorem dX8_hears_144 : decode cX8_hears 144 = .ok (.aload_n 0, 1) := by decide +kernel
theorem dX8_hears_145 : decode cX8_hears 145 = .ok (.getfield 7, 3) := by decide +kernel
theorem dX8_hears_148 : decode cX8_hears 148 = .ok (.iload 6, 2) := by decide +kernel
theorem dX8_hears_150 : decode cX8_hears 150 = .ok (.iload 7, 2) := by decide +kernel
theorem dX8_hears_152 : decode cX8_hears 152 = .ok (.ifCond .eq 7, 3) := by decide +kernel
theorem dX8_hears_155 : decode cX8_hears 155 = .ok (.iconst 5, 1) := by decide +kernel
theorem dX8_hears_156 : decode cX8_hears 156 = .ok (.goto 4, 3) := by decide +kernel
theorem dX8_hears_159 : decode cX8_hears 159 = .ok (.iconst 4, 1) := by decide +kernel
theorem dX8_hears_160 : decode cX8_hears 160 = .ok (.iadd, 1) := by decide +kernel
theorem dX8_hears_161 : decode cX8_hears 161 = .ok (.dup2, 1) := by decide +kernel
theorem dX8_hears_162 : decode cX8_hears 162 = .ok (.iaload, 1) := by decide +kernel
theorem dX8_hears_163 : decode cX8_hears 163 = .ok (.iconst 1, 1) := by decide +kernel
theorem dX8_hears_164 : decode cX8_hears 164 = .ok (.iadd, 1) := by decide +kernel
theorem dX8_hears_165 : decode cX8_hears 165 = .ok (.iastore, 1) := by decide +kernel
theorem dX8_hears_166 : decode cX8_hears 166 = .ok (.iload 7, 2) := by decide +kernel
theorem dX8_hears_168 : decode cX8_hears 168 = .ok (.ifCond .eq 103, 3) := by decide +kernel
theorem dX8_hears_171 : decode cX8_hears 171 = .ok (.iload_n 1, 1) := by decide +kernel
theorem dX8_hears_172 : decode cX8_hears 172 = .ok (.sipush 144, 3) := by decide +kernel
theorem dX8_hears_175 : decode cX8_hears 175 = .ok (.iadd, 1) := by decide +kernel
theorem dX8_hears_176 : decode cX8_hears 176 = .ok (.iconst 4, 1) := by decide +kernel
theorem dX8_hears_177 : decode cX8_hears 177 = .ok (.aload_n 0, 1) := by decide +kernel
theorem dX8_hears_178 : decode cX8_hears 178 = .ok (.getfield 7, 3) := by decide +kernel
theorem dX8_hears_181 : decode cX8_hears 181 = .ok (.iload_n 1, 1) := by decide +kernel
theorem dX8_hears_182 : decode cX8_hears 182 = .ok (.bipush 11, 2) := by decide +kernel
theorem dX8_hears_184 : decode cX8_hears 184 = .ok (.iadd, 1) := by decide +kernel
theorem dX8_hears_185 : decode cX8_hears 185 = .ok (.iaload, 1) := by decide +kernel
theorem dX8_hears_186 : decode cX8_hears 186 = .ok (.imul, 1) := by decide +kernel
theorem dX8_hears_187 : decode cX8_hears 187 = .ok (.iadd, 1) := by decide +kernel
theorem dX8_hears_188 : decode cX8_hears 188 = .ok (.istore 8, 2) := by decide +kernel
theorem dX8_hears_190 : decode cX8_hears 190 = .ok (.aload_n 0, 1) := by decide +kernel
theorem dX8_hears_191 : decode cX8_hears 191 = .ok (.getfield 7, 3) := by decide +kernel
theorem dX8_hears_194 : decode cX8_hears 194 = .ok (.iload 8, 2) := by decide +kernel
theorem dX8_hears_196 : decode cX8_hears 196 = .ok (.aload_n 0, 1) := by decide +kernel
theorem dX8_hears_197 : decode cX8_hears 197 = .ok (.getfield 7, 3) := by decide +kernel
theorem dX8_hears_200 : decode cX8_hears 200 = .ok (.iload 5, 2) := by decide +kernel
theorem dX8_hears_202 : decode cX8_hears 202 = .ok (.iconst 1, 1) := by decide +kernel
theorem dX8_hears_203 : decode cX8_hears 203 = .ok (.iadd, 1) := by decide +kernel
theorem dX8_hears_204 : decode cX8_hears 204 = .ok (.iaload, 1) := by decide +kernel
theorem dX8_hears_205 : decode cX8_hears 205 = .ok (.iastore, 1) := by decide +kernel
theorem dX8_hears_206 : decode cX8_hears 206 = .ok (.aload_n 0, 1) := by decide +kernel
theorem dX8_hears_207 : decode cX8_hears 207 = .ok (.getfield 7, 3) := by decide +kernel
theorem dX8_hears_210 : decode cX8_hears 210 = .ok (.iload 8, 2) := by decide +kernel
theorem dX8_hears_212 : decode cX8_hears 212 = .ok (.iconst 1, 1) := by decide +kernel
theorem dX8_hears_213 : decode cX8_hears 213 = .ok (.iadd, 1) := by decide +kernel
theorem dX8_hears_214 : decode cX8_hears 214 = .ok (.aload_n 0, 1) := by decide +kernel
theorem dX8_hears_215 : decode cX8_hears 215 = .ok (.getfield 7, 3) := by decide +kernel
theorem dX8_hears_218 : decode cX8_hears 218 = .ok (.iload 5, 2) := by decide +kernel
theorem dX8_hears_220 : decode cX8_hears 220 = .ok (.iconst 2, 1) := by decide +kernel
theorem dX8_hears_221 : decode cX8_hears 221 = .ok (.iadd, 1) := by decide +kernel
theorem dX8_hears_222 : decode cX8_hears 222 = .ok (.iaload, 1) := by decide +kernel
theorem dX8_hears_223 : decode cX8_hears 223 = .ok (.iastore, 1) := by decide +kernel
theorem dX8_hears_224 : decode cX8_hears 224 = .ok (.aload_n 0, 1) := by decide +kernel
theorem dX8_hears_225 : decode cX8_hears 225 = .ok (.getfield 7, 3) := by decide +kernel
theorem dX8_hears_228 : decode cX8_hears 228 = .ok (.iload 8, 2) := by decide +kernel
theorem dX8_hears_230 : decode cX8_hears 230 = .ok (.iconst 2, 1) := by decide +kernel
theorem dX8_hears_231 : decode cX8_hears 231 = .ok (.iadd, 1) := by decide +kernel
theorem dX8_hears_232 : decode cX8_hears 232 = .ok (.aload_n 0, 1) := by decide +kernel
theorem dX8_hears_233 : decode cX8_hears 233 = .ok (.getfield 7, 3) := by decide +kernel
theorem dX8_hears_236 : decode cX8_hears 236 = .ok (.iload 5, 2) := by decide +kernel
theorem dX8_hears_238 : decode cX8_hears 238 = .ok (.iconst 3, 1) := by decide +kernel
theorem dX8_hears_239 : decode cX8_hears 239 = .ok (.iadd, 1) := by decide +kernel
theorem dX8_hears_240 : decode cX8_hears 240 = .ok (.iaload, 1) := by decide +kernel
theorem dX8_hears_241 : decode cX8_hears 241 = .ok (.iastore, 1) := by decide +kernel
theorem dX8_hears_242 : decode cX8_hears 242 = .ok (.aload_n 0, 1) := by decide +kernel
theorem dX8_hears_243 : decode cX8_hears 243 = .ok (.getfield 7, 3) := by decide +kernel
theorem dX8_hears_246 : decode cX8_hears 246 = .ok (.iload 8, 2) := by decide +kernel
theorem dX8_hears_248 : decode cX8_hears 248 = .ok (.iconst 3, 1) := by decide +kernel
theorem dX8_hears_249 : decode cX8_hears 249 = .ok (.iadd, 1) := by decide +kernel
theorem dX8_hears_250 : decode cX8_hears 250 = .ok (.aload_n 0, 1) := by decide +kernel
theorem dX8_hears_251 : decode cX8_hears 251 = .ok (.iload_n 1, 1) := by decide +kernel
theorem dX8_hears_252 : decode cX8_hears 252 = .ok (.iload 4, 2) := by decide +kernel
theorem dX8_hears_254 : decode cX8_hears 254 = .ok (.invokevirtual 58, 3) := by decide +kernel
theorem dX8_hears_257 : decode cX8_hears 257 = .ok (.iastore, 1) := by decide +kernel
theorem dX8_hears_258 : decode cX8_hears 258 = .ok (.aload_n 0, 1) := by decide +kernel
theorem dX8_hears_259 : decode cX8_hears 259 = .ok (.getfield 7, 3) := by decide +kernel
theorem dX8_hears_262 : decode cX8_hears 262 = .ok (.iload_n 1, 1) := by decide +kernel
theorem dX8_hears_263 : decode cX8_hears 263 = .ok (.bipush 11, 2) := by decide +kernel
theorem dX8_hears_265 : decode cX8_hears 265 = .ok (.iadd, 1) := by decide +kernel
theorem dX8_hears_266 : decode cX8_hears 266 = .ok (.dup2, 1) := by decide +kernel
theorem dX8_hears_267 : decode cX8_hears 267 = .ok (.iaload, 1) := by decide +kernel
theorem dX8_hears_268 : decode cX8_hears 268 = .ok (.iconst 1, 1) := by decide +kernel
theorem dX8_hears_269 : decode cX8_hears 269 = .ok (.iadd, 1) := by decide +kernel
theorem dX8_hears_270 : decode cX8_hears 270 = .ok (.iastore, 1) := by decide +kernel
theorem dX8_hears_271 : decode cX8_hears 271 = .ok (.iinc 4 1, 3) := by decide +kernel
theorem dX8_hears_274 : decode cX8_hears 274 = .ok (.goto (-174), 3) := by decide +kernel
theorem dX8_hears_277 : decode cX8_hears 277 = .ok (.aload_n 0, 1) := by decide +kernel
theorem dX8_hears_278 : decode cX8_hears 278 = .ok (.getfield 7, 3) := by decide +kernel
theorem dX8_hears_281 : decode cX8_hears 281 = .ok (.iload_n 1, 1) := by decide +kernel
theorem dX8_hears_282 : decode cX8_hears 282 = .ok (.bipush 8, 2) := by decide +kernel
theorem dX8_hears_284 : decode cX8_hears 284 = .ok (.iadd, 1) := by decide +kernel
theorem dX8_hears_285 : decode cX8_hears 285 = .ok (.dup2, 1) := by decide +kernel
theorem dX8_hears_286 : decode cX8_hears 286 = .ok (.iaload, 1) := by decide +kernel
theorem dX8_hears_287 : decode cX8_hears 287 = .ok (.iload_n 3, 1) := by decide +kernel
theorem dX8_hears_288 : decode cX8_hears 288 = .ok (.iadd, 1) := by decide +kernel
theorem dX8_hears_289 : decode cX8_hears 289 = .ok (.iastore, 1) := by decide +kernel
theorem dX8_hears_290 : decode cX8_hears 290 = .ok (.aload_n 0, 1) := by decide +kernel
theorem dX8_hears_291 : decode cX8_hears 291 = .ok (.getfield 7, 3) := by decide +kernel
theorem dX8_hears_294 : decode cX8_hears 294 = .ok (.iload_n 1, 1) := by decide +kernel
theorem dX8_hears_295 : decode cX8_hears 295 = .ok (.bipush 9, 2) := by decide +kernel
theorem dX8_hears_297 : decode cX8_hears 297 = .ok (.iadd, 1) := by decide +kernel
theorem dX8_hears_298 : decode cX8_hears 298 = .ok (.dup2, 1) := by decide +kernel
theorem dX8_hears_299 : decode cX8_hears 299 = .ok (.iaload, 1) := by decide +kernel
theorem dX8_hears_300 : decode cX8_hears 300 = .ok (.iload_n 2, 1) := by decide +kernel
theorem dX8_hears_301 : decode cX8_hears 301 = .ok (.iload_n 3, 1) := by decide +kernel
theorem dX8_hears_302 : decode cX8_hears 302 = .ok (.isub, 1) := by decide +kernel
theorem dX8_hears_303 : decode cX8_hears 303 = .ok (.iadd, 1) := by decide +kernel
theorem dX8_hears_304 : decode cX8_hears 304 = .ok (.iastore, 1) := by decide +kernel
theorem dX8_hears_305 : decode cX8_hears 305 = .ok (.iload_n 3, 1) := by decide +kernel
theorem dX8_hears_306 : decode cX8_hears 306 = .ok (.ireturn, 1) := by decide +kernel
theorem dX8_day_0 : decode cX8_day 0 = .ok (.aload_n 0, 1) := by decide +kernel
theorem dX8_day_1 : decode cX8_day 1 = .ok (.getfield 7, 3) := by decide +kernel
theorem dX8_day_4 : decode cX8_day 4 = .ok (.iload_n 1, 1) := by decide +kernel
theorem dX8_day_5 : decode cX8_day 5 = .ok (.iconst 2, 1) := by decide +kernel
theorem dX8_day_6 : decode cX8_day 6 = .ok (.iadd, 1) := by decide +kernel
theorem dX8_day_7 : decode cX8_day 7 = .ok (.dup2, 1) := by decide +kernel
theorem dX8_day_8 : decode cX8_day 8 = .ok (.iaload, 1) := by decide +kernel
theorem dX8_day_9 : decode cX8_day 9 = .ok (.iconst 1, 1) := by decide +kernel
theorem dX8_day_10 : decode cX8_day 10 = .ok (.iadd, 1) := by decide +kernel
theorem dX8_day_11 : decode cX8_day 11 = .ok (.iastore, 1) := by decide +kernel
theorem dX8_day_12 : decode cX8_day 12 = .ok (.aload_n 0, 1) := by decide +kernel
theorem dX8_day_13 : decode cX8_day 13 = .ok (.getfield 7, 3) := by decide +kernel
theorem dX8_day_16 : decode cX8_day 16 = .ok (.iload_n 1, 1) := by decide +kernel
theorem dX8_day_17 : decode cX8_day 17 = .ok (.iconst 4, 1) := by decide +kernel
theorem dX8_day_18 : decode cX8_day 18 = .ok (.iadd, 1) := by decide +kernel
theorem dX8_day_19 : decode cX8_day 19 = .ok (.dup2, 1) := by decide +kernel
theorem dX8_day_20 : decode cX8_day 20 = .ok (.iaload, 1) := by decide +kernel
theorem dX8_day_21 : decode cX8_day 21 = .ok (.iconst 1, 1) := by decide +kernel
theorem dX8_day_22 : decode cX8_day 22 = .ok (.iadd, 1) := by decide +kernel
theorem dX8_day_23 : decode cX8_day 23 = .ok (.iastore, 1) := by decide +kernel
theorem dX8_day_24 : decode cX8_day 24 = .ok (.aload_n 0, 1) := by decide +kernel
theorem dX8_day_25 : decode cX8_day 25 = .ok (.getfield 7, 3) := by decide +kernel
theorem dX8_day_28 : decode cX8_day 28 = .ok (.iload_n 1, 1) := by decide +kernel
theorem dX8_day_29 : decode cX8_day 29 = .ok (.iconst 4, 1) := by decide +kernel
theorem dX8_day_30 : decode cX8_day 30 = .ok (.iadd, 1) := by decide +kernel
theorem dX8_day_31 : decode cX8_day 31 = .ok (.iaload, 1) := by decide +kernel
theorem dX8_day_32 : decode cX8_day 32 = .ok (.aload_n 0, 1) := by decide +kernel
theorem dX8_day_33 : decode cX8_day 33 = .ok (.getfield 7, 3) := by decide +kernel
theorem dX8_day_36 : decode cX8_day 36 = .ok (.iload_n 1, 1) := by decide +kernel
theorem dX8_day_37 : decode cX8_day 37 = .ok (.iconst 1, 1) := by decide +kernel
theorem dX8_day_38 : decode cX8_day 38 = .ok (.iadd, 1) := by decide +kernel
theorem dX8_day_39 : decode cX8_day 39 = .ok (.iaload, 1) := by decide +kernel
theorem dX8_day_40 : decode cX8_day 40 = .ok (.if_icmp .ge 5, 3) := by decide +kernel
theorem dX8_day_43 : decode cX8_day 43 = .ok (.iconst 0, 1) := by decide +kernel
theorem dX8_day_44 : decode cX8_day 44 = .ok (.ireturn, 1) := by decide +kernel
theorem dX8_day_45 : decode cX8_day 45 = .ok (.aload_n 0, 1) := by decide +kernel
theorem dX8_day_46 : decode cX8_day 46 = .ok (.iload_n 1, 1) := by decide +kernel
theorem dX8_day_47 : decode cX8_day 47 = .ok (.invokevirtual 72, 3) := by decide +kernel
theorem dX8_day_50 : decode cX8_day 50 = .ok (.istore_n 2, 1) := by decide +kernel
theorem dX8_day_51 : decode cX8_day 51 = .ok (.aload_n 0, 1) := by decide +kernel
theorem dX8_day_52 : decode cX8_day 52 = .ok (.getfield 7, 3) := by decide +kernel
theorem dX8_day_55 : decode cX8_day 55 = .ok (.iload_n 1, 1) := by decide +kernel
theorem dX8_day_56 : decode cX8_day 56 = .ok (.iconst 3, 1) := by decide +kernel
theorem dX8_day_57 : decode cX8_day 57 = .ok (.iadd, 1) := by decide +kernel
theorem dX8_day_58 : decode cX8_day 58 = .ok (.dup2, 1) := by decide +kernel
theorem dX8_day_59 : decode cX8_day 59 = .ok (.iaload, 1) := by decide +kernel
theorem dX8_day_60 : decode cX8_day 60 = .ok (.iconst 1, 1) := by decide +kernel
theorem dX8_day_61 : decode cX8_day 61 = .ok (.iadd, 1) := by decide +kernel
theorem dX8_day_62 : decode cX8_day 62 = .ok (.iastore, 1) := by decide +kernel
theorem dX8_day_63 : decode cX8_day 63 = .ok (.aload_n 0, 1) := by decide +kernel
theorem dX8_day_64 : decode cX8_day 64 = .ok (.getfield 7, 3) := by decide +kernel
theorem dX8_day_67 : decode cX8_day 67 = .ok (.iload_n 1, 1) := by decide +kernel
theorem dX8_day_68 : decode cX8_day 68 = .ok (.iconst 4, 1) := by decide +kernel
theorem dX8_day_69 : decode cX8_day 69 = .ok (.iadd, 1) := by decide +kernel
theorem dX8_day_70 : decode cX8_day 70 = .ok (.iconst 0, 1) := by decide +kernel
theorem dX8_day_71 : decode cX8_day 71 = .ok (.iastore, 1) := by decide +kernel
theorem dX8_day_72 : decode cX8_day 72 = .ok (.aload_n 0, 1) := by decide +kernel
theorem dX8_day_73 : decode cX8_day 73 = .ok (.getfield 7, 3) := by decide +kernel
theorem dX8_day_76 : decode cX8_day 76 = .ok (.iload_n 1, 1) := by decide +kernel
theorem dX8_day_77 : decode cX8_day 77 = .ok (.bipush 6, 2) := by decide +kernel
theorem dX8_day_79 : decode cX8_day 79 = .ok (.iadd, 1) := by decide +kernel
theorem dX8_day_80 : decode cX8_day 80 = .ok (.iconst 0, 1) := by decide +kernel
theorem dX8_day_81 : decode cX8_day 81 = .ok (.iastore, 1) := by decide +kernel
theorem dX8_day_82 : decode cX8_day 82 = .ok (.iconst 0, 1) := by decide +kernel
theorem dX8_day_83 : decode cX8_day 83 = .ok (.istore_n 3, 1) := by decide +kernel
theorem dX8_day_84 : decode cX8_day 84 = .ok (.iload_n 3, 1) := by decide +kernel
theorem dX8_day_85 : decode cX8_day 85 = .ok (.aload_n 0, 1) := by decide +kernel
theorem dX8_day_86 : decode cX8_day 86 = .ok (.getfield 7, 3) := by decide +kernel
theorem dX8_day_89 : decode cX8_day 89 = .ok (.iload_n 1, 1) := by decide +kernel
theorem dX8_day_90 : decode cX8_day 90 = .ok (.iconst 5, 1) := by decide +kernel
theorem dX8_day_91 : decode cX8_day 91 = .ok (.iadd, 1) := by decide +kernel
theorem dX8_day_92 : decode cX8_day 92 = .ok (.iaload, 1) := by decide +kernel
theorem dX8_day_93 : decode cX8_day 93 = .ok (.if_icmp .ge 23, 3) := by decide +kernel
theorem dX8_day_96 : decode cX8_day 96 = .ok (.aload_n 0, 1) := by decide +kernel
theorem dX8_day_97 : decode cX8_day 97 = .ok (.getfield 7, 3) := by decide +kernel
theorem dX8_day_100 : decode cX8_day 100 = .ok (.iload_n 1, 1) := by decide +kernel
theorem dX8_day_101 : decode cX8_day 101 = .ok (.iload_n 3, 1) := by decide +kernel
theorem dX8_day_102 : decode cX8_day 102 = .ok (.invokestatic 40, 3) := by decide +kernel
theorem dX8_day_105 : decode cX8_day 105 = .ok (.iconst 2, 1) := by decide +kernel
theorem dX8_day_106 : decode cX8_day 106 = .ok (.iadd, 1) := by decide +kernel
theorem dX8_day_107 : decode cX8_day 107 = .ok (.bipush (-5), 2) := by decide +kernel
theorem dX8_day_109 : decode cX8_day 109 = .ok (.iastore, 1) := by decide +kernel
theorem dX8_day_110 : decode cX8_day 110 = .ok (.iinc 3 1, 3) := by decide +kernel
theorem dX8_day_113 : decode cX8_day 113 = .ok (.goto (-29), 3) := by decide +kernel
theorem dX8_day_116 : decode cX8_day 116 = .ok (.iload_n 2, 1) := by decide +kernel
theorem dX8_day_117 : decode cX8_day 117 = .ok (.ireturn, 1) := by decide +kernel
theorem dX8_isDrone_0 : decode cX8_isDrone 0 = .ok (.iload_n 1, 1) := by decide +kernel
theorem dX8_isDrone_1 : decode cX8_isDrone 1 = .ok (.iconst 0, 1) := by decide +kernel
theorem dX8_isDrone_2 : decode cX8_isDrone 2 = .ok (.aload_n 0, 1) := by decide +kernel
theorem dX8_isDrone_3 : decode cX8_isDrone 3 = .ok (.getfield 7, 3) := by decide +kernel
theorem dX8_isDrone_6 : decode cX8_isDrone 6 = .ok (.iconst 5, 1) := by decide +kernel
theorem dX8_isDrone_7 : decode cX8_isDrone 7 = .ok (.iaload, 1) := by decide +kernel
theorem dX8_isDrone_8 : decode cX8_isDrone 8 = .ok (.iconst 1, 1) := by decide +kernel
theorem dX8_isDrone_9 : decode cX8_isDrone 9 = .ok (.isub, 1) := by decide +kernel
theorem dX8_isDrone_10 : decode cX8_isDrone 10 = .ok (.invokestatic 76, 3) := by decide +kernel
theorem dX8_isDrone_13 : decode cX8_isDrone 13 = .ok (.ireturn, 1) := by decide +kernel
theorem dX8_isPetition_0 : decode cX8_isPetition 0 = .ok (.iload_n 1, 1) := by decide +kernel
theorem dX8_isPetition_1 : decode cX8_isPetition 1 = .ok (.iconst 0, 1) := by decide +kernel
theorem dX8_isPetition_2 : decode cX8_isPetition 2 = .ok (.aload_n 0, 1) := by decide +kernel
theorem dX8_isPetition_3 : decode cX8_isPetition 3 = .ok (.getfield 7, 3) := by decide +kernel
theorem dX8_isPetition_6 : decode cX8_isPetition 6 = .ok (.bipush 6, 2) := by decide +kernel
theorem dX8_isPetition_8 : decode cX8_isPetition 8 = .ok (.iaload, 1) := by decide +kernel
theorem dX8_isPetition_9 : decode cX8_isPetition 9 = .ok (.iconst 1, 1) := by decide +kernel
theorem dX8_isPetition_10 : decode cX8_isPetition 10 = .ok (.isub, 1) := by decide +kernel
theorem dX8_isPetition_11 : decode cX8_isPetition 11 = .ok (.invokestatic 76, 3) := by decide +kernel
theorem dX8_isPetition_14 : decode cX8_isPetition 14 = .ok (.ireturn, 1) := by decide +kernel
theorem dX8_isDoing_0 : decode cX8_isDoing 0 = .ok (.iload_n 0, 1) := by decide +kernel
theorem dX8_isDoing_1 : decode cX8_isDoing 1 = .ok (.iconst 0, 1) := by decide +kernel
theorem dX8_isDoing_2 : decode cX8_isDoing 2 = .ok (.bipush 19, 2) := by decide +kernel
theorem dX8_isDoing_4 : decode cX8_isDoing 4 = .ok (.invokestatic 76, 3) := by decide +kernel
theorem dX8_isDoing_7 : decode cX8_isDoing 7 = .ok (.ireturn, 1) := by decide +kernel
theorem dX8_isComb_0 : decode cX8_isComb 0 = .ok (.iload_n 0, 1) := by decide +kernel
theorem dX8_isComb_1 : decode cX8_isComb 1 = .ok (.iconst 0, 1) := by decide +kernel
theorem dX8_isComb_2 : decode cX8_isComb 2 = .ok (.iconst 5, 1) := by decide +kernel
theorem dX8_isComb_3 : decode cX8_isComb 3 = .ok (.invokestatic 76, 3) := by decide +kernel
theorem dX8_isComb_6 : decode cX8_isComb 6 = .ok (.ireturn, 1) := by decide +kernel
theorem dX8_comes_0 : decode cX8_comes 0 = .ok (.iload_n 1, 1) := by decide +kernel
theorem dX8_comes_1 : decode cX8_comes 1 = .ok (.invokestatic 80, 3) := by decide +kernel
theorem dX8_comes_4 : decode cX8_comes 4 = .ok (.ifCond .ne 5, 3) := by decide +kernel
theorem dX8_comes_7 : decode cX8_comes 7 = .ok (.iconst (-1), 1) := by decide +kernel
theorem dX8_comes_8 : decode cX8_comes 8 = .ok (.ireturn, 1) := by decide +kernel
theorem dX8_comes_9 : decode cX8_comes 9 = .ok (.iload_n 2, 1) := by decide +kernel
theorem dX8_comes_10 : decode cX8_comes 10 = .ok (.iconst 1, 1) := by decide +kernel
theorem dX8_comes_11 : decode cX8_comes 11 = .ok (.bipush 9, 2) := by decide +kernel
theorem dX8_comes_13 : decode cX8_comes 13 = .ok (.invokestatic 76, 3) := by decide +kernel
theorem dX8_comes_16 : decode cX8_comes 16 = .ok (.ifCond .ne 6, 3) := by decide +kernel
theorem dX8_comes_19 : decode cX8_comes 19 = .ok (.bipush (-2), 2) := by decide +kernel
theorem dX8_comes_21 : decode cX8_comes 21 = .ok (.ireturn, 1) := by decide +kernel
theorem dX8_comes_22 : decode cX8_comes 22 = .ok (.aload_n 0, 1) := by decide +kernel
theorem dX8_comes_23 : decode cX8_comes 23 = .ok (.getfield 7, 3) := by decide +kernel
theorem dX8_comes_26 : decode cX8_comes 26 = .ok (.iconst 5, 1) := by decide +kernel
theorem dX8_comes_27 : decode cX8_comes 27 = .ok (.iaload, 1) := by decide +kernel
theorem dX8_comes_28 : decode cX8_comes 28 = .ok (.bipush 12, 2) := by decide +kernel
theorem dX8_comes_30 : decode cX8_comes 30 = .ok (.if_icmp .ne 6, 3) := by decide +kernel
theorem dX8_comes_33 : decode cX8_comes 33 = .ok (.bipush (-3), 2) := by decide +kernel
theorem dX8_comes_35 : decode cX8_comes 35 = .ok (.ireturn, 1) := by decide +kernel
theorem dX8_comes_36 : decode cX8_comes 36 = .ok (.iconst 0, 1) := by decide +kernel
theorem dX8_comes_37 : decode cX8_comes 37 = .ok (.aload_n 0, 1) := by decide +kernel
theorem dX8_comes_38 : decode cX8_comes 38 = .ok (.getfield 7, 3) := by decide +kernel
theorem dX8_comes_41 : decode cX8_comes 41 = .ok (.iconst 5, 1) := by decide +kernel
theorem dX8_comes_42 : decode cX8_comes 42 = .ok (.iaload, 1) := by decide +kernel
theorem dX8_comes_43 : decode cX8_comes 43 = .ok (.invokestatic 40, 3) := by decide +kernel
theorem dX8_comes_46 : decode cX8_comes 46 = .ok (.istore_n 3, 1) := by decide +kernel
theorem dX8_comes_47 : decode cX8_comes 47 = .ok (.iconst 0, 1) := by decide +kernel
theorem dX8_comes_48 : decode cX8_comes 48 = .ok (.istore 4, 2) := by decide +kernel
theorem dX8_comes_50 : decode cX8_comes 50 = .ok (.iload 4, 2) := by decide +kernel
theorem dX8_comes_52 : decode cX8_comes 52 = .ok (.bipush 6, 2) := by decide +kernel
theorem dX8_comes_54 : decode cX8_comes 54 = .ok (.if_icmp .ge 49, 3) := by decide +kernel
theorem dX8_comes_57 : decode cX8_comes 57 = .ok (.aload_n 0, 1) := by decide +kernel
theorem dX8_comes_58 : decode cX8_comes 58 = .ok (.getfield 7, 3) := by decide +kernel
theorem dX8_comes_61 : decode cX8_comes 61 = .ok (.iload_n 3, 1) := by decide +kernel
theorem dX8_comes_62 : decode cX8_comes 62 = .ok (.iload 4, 2) := by decide +kernel
theorem dX8_comes_64 : decode cX8_comes 64 = .ok (.iadd, 1) := by decide +kernel
theorem dX8_comes_65 : decode cX8_comes 65 = .ok (.iload 4, 2) := by decide +kernel
theorem dX8_comes_67 : decode cX8_comes 67 = .ok (.ifCond .ne 7, 3) := by decide +kernel
theorem dX8_comes_70 : decode cX8_comes 70 = .ok (.iload_n 1, 1) := by decide +kernel
theorem dX8_comes_71 : decode cX8_comes 71 = .ok (.goto 25, 3) := by decide +kernel
theorem dX8_comes_74 : decode cX8_comes 74 = .ok (.iload 4, 2) := by decide +kernel
theorem dX8_comes_76 : decode cX8_comes 76 = .ok (.iconst 1, 1) := by decide +kernel
theorem dX8_comes_77 : decode cX8_comes 77 = .ok (.if_icmp .ne 7, 3) := by decide +kernel
theorem dX8_comes_80 : decode cX8_comes 80 = .ok (.iload_n 2, 1) := by decide +kernel
theorem dX8_comes_81 : decode cX8_comes 81 = .ok (.goto 15, 3) := by decide +kernel
theorem dX8_comes_84 : decode cX8_comes 84 = .ok (.iload 4, 2) := by decide +kernel
theorem dX8_comes_86 : decode cX8_comes 86 = .ok (.iconst 2, 1) := by decide +kernel
theorem dX8_comes_87 : decode cX8_comes 87 = .ok (.if_icmp .ne 8, 3) := by decide +kernel
theorem dX8_comes_90 : decode cX8_comes 90 = .ok (.bipush (-5), 2) := by decide +kernel
theorem dX8_comes_92 : decode cX8_comes 92 = .ok (.goto 4, 3) := by decide +kernel
theorem dX8_comes_95 : decode cX8_comes 95 = .ok (.iconst 0, 1) := by decide +kernel
theorem dX8_comes_96 : decode cX8_comes 96 = .ok (.iastore, 1) := by decide +kernel
theorem dX8_comes_97 : decode cX8_comes 97 = .ok (.iinc 4 1, 3) := by decide +kernel
theorem dX8_comes_100 : decode cX8_comes 100 = .ok (.goto (-50), 3) := by decide +kernel
theorem dX8_comes_103 : decode cX8_comes 103 = .ok (.aload_n 0, 1) := by decide +kernel
theorem dX8_comes_104 : decode cX8_comes 104 = .ok (.getfield 7, 3) := by decide +kernel
theorem dX8_comes_107 : decode cX8_comes 107 = .ok (.iconst 5, 1) := by decide +kernel
theorem dX8_comes_108 : decode cX8_comes 108 = .ok (.dup2, 1) := by decide +kernel
theorem dX8_comes_109 : decode cX8_comes 109 = .ok (.iaload, 1) := by decide +kernel
theorem dX8_comes_110 : decode cX8_comes 110 = .ok (.iconst 1, 1) := by decide +kernel
theorem dX8_comes_111 : decode cX8_comes 111 = .ok (.iadd, 1) := by decide +kernel
theorem dX8_comes_112 : decode cX8_comes 112 = .ok (.iastore, 1) := by decide +kernel
theorem dX8_comes_113 : decode cX8_comes 113 = .ok (.aload_n 0, 1) := by decide +kernel
theorem dX8_comes_114 : decode cX8_comes 114 = .ok (.getfield 7, 3) := by decide +kernel
theorem dX8_comes_117 : decode cX8_comes 117 = .ok (.iconst 5, 1) := by decide +kernel
theorem dX8_comes_118 : decode cX8_comes 118 = .ok (.iaload, 1) := by decide +kernel
theorem dX8_comes_119 : decode cX8_comes 119 = .ok (.iconst 1, 1) := by decide +kernel
theorem dX8_comes_120 : decode cX8_comes 120 = .ok (.isub, 1) := by decide +kernel
theorem dX8_comes_121 : decode cX8_comes 121 = .ok (.ireturn, 1) := by decide +kernel
theorem dX8_moves_0 : decode cX8_moves 0 = .ok (.aload_n 0, 1) := by decide +kernel
theorem dX8_moves_1 : decode cX8_moves 1 = .ok (.iload_n 1, 1) := by decide +kernel
theorem dX8_moves_2 : decode cX8_moves 2 = .ok (.invokevirtual 84, 3) := by decide +kernel
theorem dX8_moves_5 : decode cX8_moves 5 = .ok (.ifCond .eq 10, 3) := by decide +kernel
theorem dX8_moves_8 : decode cX8_moves 8 = .ok (.iload_n 2, 1) := by decide +kernel
theorem dX8_moves_9 : decode cX8_moves 9 = .ok (.invokestatic 80, 3) := by decide +kernel
theorem dX8_moves_12 : decode cX8_moves 12 = .ok (.ifCond .ne 5, 3) := by decide +kernel
theorem dX8_moves_15 : decode cX8_moves 15 = .ok (.iconst (-1), 1) := by decide +kernel
theorem dX8_moves_16 : decode cX8_moves 16 = .ok (.ireturn, 1) := by decide +kernel
theorem dX8_moves_17 : decode cX8_moves 17 = .ok (.aload_n 0, 1) := by decide +kernel
theorem dX8_moves_18 : decode cX8_moves 18 = .ok (.getfield 7, 3) := by decide +kernel
theorem dX8_moves_21 : decode cX8_moves 21 = .ok (.iconst 0, 1) := by decide +kernel
theorem dX8_moves_22 : decode cX8_moves 22 = .ok (.iload_n 1, 1) := by decide +kernel
theorem dX8_moves_23 : decode cX8_moves 23 = .ok (.invokestatic 40, 3) := by decide +kernel
theorem dX8_moves_26 : decode cX8_moves 26 = .ok (.iaload, 1) := by decide +kernel
theorem dX8_moves_27 : decode cX8_moves 27 = .ok (.istore_n 3, 1) := by decide +kernel
theorem dX8_moves_28 : decode cX8_moves 28 = .ok (.aload_n 0, 1) := by decide +kernel
theorem dX8_moves_29 : decode cX8_moves 29 = .ok (.getfield 7, 3) := by decide +kernel
theorem dX8_moves_32 : decode cX8_moves 32 = .ok (.iconst 0, 1) := by decide +kernel
theorem dX8_moves_33 : decode cX8_moves 33 = .ok (.iload_n 1, 1) := by decide +kernel
theorem dX8_moves_34 : decode cX8_moves 34 = .ok (.invokestatic 40, 3) := by decide +kernel
theorem dX8_moves_37 : decode cX8_moves 37 = .ok (.iload_n 2, 1) := by decide +kernel
theorem dX8_moves_38 : decode cX8_moves 38 = .ok (.iastore, 1) := by decide +kernel
theorem dX8_moves_39 : decode cX8_moves 39 = .ok (.iload_n 3, 1) := by decide +kernel
theorem dX8_moves_40 : decode cX8_moves 40 = .ok (.iload_n 2, 1) := by decide +kernel
theorem dX8_moves_41 : decode cX8_moves 41 = .ok (.if_icmp .ne 8, 3) := by decide +kernel
theorem dX8_moves_44 : decode cX8_moves 44 = .ok (.bipush (-5), 2) := by decide +kernel
theorem dX8_moves_46 : decode cX8_moves 46 = .ok (.goto 4, 3) := by decide +kernel
theorem dX8_moves_49 : decode cX8_moves 49 = .ok (.iload_n 3, 1) := by decide +kernel
theorem dX8_moves_50 : decode cX8_moves 50 = .ok (.ireturn, 1) := by decide +kernel
theorem dX8_petitions_0 : decode cX8_petitions 0 = .ok (.aload_n 0, 1) := by decide +kernel
theorem dX8_petitions_1 : decode cX8_petitions 1 = .ok (.iload_n 1, 1) := by decide +kernel
theorem dX8_petitions_2 : decode cX8_petitions 2 = .ok (.invokevirtual 84, 3) := by decide +kernel
theorem dX8_petitions_5 : decode cX8_petitions 5 = .ok (.ifCond .eq 20, 3) := by decide +kernel
theorem dX8_petitions_8 : decode cX8_petitions 8 = .ok (.iload_n 2, 1) := by decide +kernel
theorem dX8_petitions_9 : decode cX8_petitions 9 = .ok (.iconst 0, 1) := by decide +kernel
theorem dX8_petitions_10 : decode cX8_petitions 10 = .ok (.bipush 6, 2) := by decide +kernel
theorem dX8_petitions_12 : decode cX8_petitions 12 = .ok (.invokestatic 76, 3) := by decide +kernel
theorem dX8_petitions_15 : decode cX8_petitions 15 = .ok (.ifCond .eq 10, 3) := by decide +kernel
theorem dX8_petitions_18 : decode cX8_petitions 18 = .ok (.iload_n 3, 1) := by decide +kernel
theorem dX8_petitions_19 : decode cX8_petitions 19 = .ok (.invokestatic 87, 3) := by decide +kernel
theorem dX8_petitions_22 : decode cX8_petitions 22 = .ok (.ifCond .ne 5, 3) := by decide +kernel
theorem dX8_petitions_25 : decode cX8_petitions 25 = .ok (.iconst (-1), 1) := by decide +kernel
theorem dX8_petitions_26 : decode cX8_petitions 26 = .ok (.ireturn, 1) := by decide +kernel
theorem dX8_petitions_27 : decode cX8_petitions 27 = .ok (.iload 4, 2) := by decide +kernel
theorem dX8_petitions_29 : decode cX8_petitions 29 = .ok (.iconst 0, 1) := by decide +kernel
theorem dX8_petitions_30 : decode cX8_petitions 30 = .ok (.iconst 2, 1) := by decide +kernel
theorem dX8_petitions_31 : decode cX8_petitions 31 = .ok (.invokestatic 76, 3) := by decide +kernel
theorem dX8_petitions_34 : decode cX8_petitions 34 = .ok (.ifCond .ne 6, 3) := by decide +kernel
theorem dX8_petitions_37 : decode cX8_petitions 37 = .ok (.bipush (-2), 2) := by decide +kernel
theorem dX8_petitions_39 : decode cX8_petitions 39 = .ok (.ireturn, 1) := by decide +kernel
theorem dX8_petitions_40 : decode cX8_petitions 40 = .ok (.iconst 0, 1) := by decide +kernel
theorem dX8_petitions_41 : decode cX8_petitions 41 = .ok (.iload_n 1, 1) := by decide +kernel
theorem dX8_petitions_42 : decode cX8_petitions 42 = .ok (.invokestatic 40, 3) := by decide +kernel
theorem dX8_petitions_45 : decode cX8_petitions 45 = .ok (.istore 5, 2) := by decide +kernel
theorem dX8_petitions_47 : decode cX8_petitions 47 = .ok (.aload_n 0, 1) := by decide +kernel
theorem dX8_petitions_48 : decode cX8_petitions 48 = .ok (.getfield 7, 3) := by decide +kernel
theorem dX8_petitions_51 : decode cX8_petitions 51 = .ok (.iload 5, 2) := by decide +kernel
theorem dX8_petitions_53 : decode cX8_petitions 53 = .ok (.iconst 2, 1) := by decide +kernel
theorem dX8_petitions_54 : decode cX8_petitions 54 = .ok (.iadd, 1) := by decide +kernel
theorem dX8_petitions_55 : decode cX8_petitions 55 = .ok (.iaload, 1) := by decide +kernel
theorem dX8_petitions_56 : decode cX8_petitions 56 = .ok (.bipush (-5), 2) := by decide +kernel
theorem dX8_petitions_58 : decode cX8_petitions 58 = .ok (.if_icmp .ne 20, 3) := by decide +kernel
theorem dX8_petitions_61 : decode cX8_petitions 61 = .ok (.iload_n 2, 1) := by decide +kernel
theorem dX8_petitions_62 : decode cX8_petitions 62 = .ok (.bipush 6, 2) := by decide +kernel
theorem dX8_petitions_64 : decode cX8_petitions 64 = .ok (.if_icmp .eq 17, 3) := by decide +kernel
theorem dX8_petitions_67 : decode cX8_petitions 67 = .ok (.aload_n 0, 1) := by decide +kernel
theorem dX8_petitions_68 : decode cX8_petitions 68 = .ok (.getfield 7, 3) := by decide +kernel
theorem dX8_petitions_71 : decode cX8_petitions 71 = .ok (.iload 5, 2) := by decide +kernel
theorem dX8_petitions_73 : decode cX8_petitions 73 = .ok (.iaload, 1) := by decide +kernel
theorem dX8_petitions_74 : decode cX8_petitions 74 = .ok (.iload_n 2, 1) := by decide +kernel
theorem dX8_petitions_75 : decode cX8_petitions 75 = .ok (.if_icmp .eq 6, 3) := by decide +kernel
theorem dX8_petitions_78 : decode cX8_petitions 78 = .ok (.bipush (-4), 2) := by decide +kernel
theorem dX8_petitions_80 : decode cX8_petitions 80 = .ok (.ireturn, 1) := by decide +kernel
theorem dX8_petitions_81 : decode cX8_petitions 81 = .ok (.iconst 0, 1) := by decide +kernel
theorem dX8_petitions_82 : decode cX8_petitions 82 = .ok (.aload_n 0, 1) := by decide +kernel
theorem dX8_petitions_83 : decode cX8_petitions 83 = .ok (.getfield 7, 3) := by decide +kernel
theorem dX8_petitions_86 : decode cX8_petitions 86 = .ok (.bipush 6, 2) := by decide +kernel
theorem dX8_petitions_88 : decode cX8_petitions 88 = .ok (.iaload, 1) := by decide +kernel
theorem dX8_petitions_89 : decode cX8_petitions 89 = .ok (.invokestatic 36, 3) := by decide +kernel
theorem dX8_petitions_92 : decode cX8_petitions 92 = .ok (.istore 6, 2) := by decide +kernel
theorem dX8_petitions_94 : decode cX8_petitions 94 = .ok (.aload_n 0, 1) := by decide +kernel
theorem dX8_petitions_95 : decode cX8_petitions 95 = .ok (.getfield 7, 3) := by decide +kernel
theorem dX8_petitions_98 : decode cX8_petitions 98 = .ok (.iload 6, 2) := by decide +kernel
theorem dX8_petitions_100 : decode cX8_petitions 100 = .ok (.iload_n 1, 1) := by decide +kernel
theorem dX8_petitions_101 : decode cX8_petitions 101 = .ok (.iastore, 1) := by decide +kernel
theorem dX8_petitions_102 : decode cX8_petitions 102 = .ok (.aload_n 0, 1) := by decide +kernel
theorem dX8_petitions_103 : decode cX8_petitions 103 = .ok (.getfield 7, 3) := by decide +kernel
theorem dX8_petitions_106 : decode cX8_petitions 106 = .ok (.iload 6, 2) := by decide +kernel
theorem dX8_petitions_108 : decode cX8_petitions 108 = .ok (.iconst 1, 1) := by decide +kernel
theorem dX8_petitions_109 : decode cX8_petitions 109 = .ok (.iadd, 1) := by decide +kernel
theorem dX8_petitions_110 : decode cX8_petitions 110 = .ok (.iload_n 2, 1) := by decide +kernel
theorem dX8_petitions_111 : decode cX8_petitions 111 = .ok (.iastore, 1) := by decide +kernel
theorem dX8_petitions_112 : decode cX8_petitions 112 = .ok (.aload_n 0, 1) := by decide +kernel
theorem dX8_petitions_113 : decode cX8_petitions 113 = .ok (.getfield 7, 3) := by decide +kernel
theorem dX8_petitions_116 : decode cX8_petitions 116 = .ok (.iload 6, 2) := by decide +kernel
theorem dX8_petitions_118 : decode cX8_petitions 118 = .ok (.iconst 2, 1) := by decide +kernel
theorem dX8_petitions_119 : decode cX8_petitions 119 = .ok (.iadd, 1) := by decide +kernel
theorem dX8_petitions_120 : decode cX8_petitions 120 = .ok (.iload_n 3, 1) := by decide +kernel
theorem dX8_petitions_121 : decode cX8_petitions 121 = .ok (.iastore, 1) := by decide +kernel
theorem dX8_petitions_122 : decode cX8_petitions 122 = .ok (.aload_n 0, 1) := by decide +kernel
theorem dX8_petitions_123 : decode cX8_petitions 123 = .ok (.getfield 7, 3) := by decide +kernel
theorem dX8_petitions_126 : decode cX8_petitions 126 = .ok (.iload 6, 2) := by decide +kernel
theorem dX8_petitions_128 : decode cX8_petitions 128 = .ok (.iconst 3, 1) := by decide +kernel
theorem dX8_petitions_129 : decode cX8_petitions 129 = .ok (.iadd, 1) := by decide +kernel
theorem dX8_petitions_130 : decode cX8_petitions 130 = .ok (.iload 4, 2) := by decide +kernel
theorem dX8_petitions_132 : decode cX8_petitions 132 = .ok (.iastore, 1) := by decide +kernel
theorem dX8_petitions_133 : decode cX8_petitions 133 = .ok (.aload_n 0, 1) := by decide +kernel
theorem dX8_petitions_134 : decode cX8_petitions 134 = .ok (.getfield 7, 3) := by decide +kernel
theorem dX8_petitions_137 : decode cX8_petitions 137 = .ok (.iload 6, 2) := by decide +kernel
theorem dX8_petitions_139 : decode cX8_petitions 139 = .ok (.iconst 4, 1) := by decide +kernel
theorem dX8_petitions_140 : decode cX8_petitions 140 = .ok (.iadd, 1) := by decide +kernel
theorem dX8_petitions_141 : decode cX8_petitions 141 = .ok (.iconst 0, 1) := by decide +kernel
theorem dX8_petitions_142 : decode cX8_petitions 142 = .ok (.iastore, 1) := by decide +kernel
theorem dX8_petitions_143 : decode cX8_petitions 143 = .ok (.aload_n 0, 1) := by decide +kernel
theorem dX8_petitions_144 : decode cX8_petitions 144 = .ok (.getfield 7, 3) := by decide +kernel
theorem dX8_petitions_147 : decode cX8_petitions 147 = .ok (.iload 5, 2) := by decide +kernel
theorem dX8_petitions_149 : decode cX8_petitions 149 = .ok (.iconst 2, 1) := by decide +kernel
theorem dX8_petitions_150 : decode cX8_petitions 150 = .ok (.iadd, 1) := by decide +kernel
theorem dX8_petitions_151 : decode cX8_petitions 151 = .ok (.aload_n 0, 1) := by decide +kernel
theorem dX8_petitions_152 : decode cX8_petitions 152 = .ok (.getfield 7, 3) := by decide +kernel
theorem dX8_petitions_155 : decode cX8_petitions 155 = .ok (.bipush 6, 2) := by decide +kernel
theorem dX8_petitions_157 : decode cX8_petitions 157 = .ok (.iaload, 1) := by decide +kernel
theorem dX8_petitions_158 : decode cX8_petitions 158 = .ok (.iastore, 1) := by decide +kernel
theorem dX8_petitions_159 : decode cX8_petitions 159 = .ok (.aload_n 0, 1) := by decide +kernel
theorem dX8_petitions_160 : decode cX8_petitions 160 = .ok (.getfield 7, 3) := by decide +kernel
theorem dX8_petitions_163 : decode cX8_petitions 163 = .ok (.iload 5, 2) := by decide +kernel
theorem dX8_petitions_165 : decode cX8_petitions 165 = .ok (.iconst 3, 1) := by decide +kernel
theorem dX8_petitions_166 : decode cX8_petitions 166 = .ok (.iadd, 1) := by decide +kernel
theorem dX8_petitions_167 : decode cX8_petitions 167 = .ok (.dup2, 1) := by decide +kernel
theorem dX8_petitions_168 : decode cX8_petitions 168 = .ok (.iaload, 1) := by decide +kernel
theorem dX8_petitions_169 : decode cX8_petitions 169 = .ok (.iconst 1, 1) := by decide +kernel
theorem dX8_petitions_170 : decode cX8_petitions 170 = .ok (.iadd, 1) := by decide +kernel
theorem dX8_petitions_171 : decode cX8_petitions 171 = .ok (.iastore, 1) := by decide +kernel
theorem dX8_petitions_172 : decode cX8_petitions 172 = .ok (.aload_n 0, 1) := by decide +kernel
theorem dX8_petitions_173 : decode cX8_petitions 173 = .ok (.getfield 7, 3) := by decide +kernel
theorem dX8_petitions_176 : decode cX8_petitions 176 = .ok (.bipush 7, 2) := by decide +kernel
theorem dX8_petitions_178 : decode cX8_petitions 178 = .ok (.dup2, 1) := by decide +kernel
theorem dX8_petitions_179 : decode cX8_petitions 179 = .ok (.iaload, 1) := by decide +kernel
theorem dX8_petitions_180 : decode cX8_petitions 180 = .ok (.iconst 1, 1) := by decide +kernel
theorem dX8_petitions_181 : decode cX8_petitions 181 = .ok (.iadd, 1) := by decide +kernel
theorem dX8_petitions_182 : decode cX8_petitions 182 = .ok (.iastore, 1) := by decide +kernel
theorem dX8_petitions_183 : decode cX8_petitions 183 = .ok (.aload_n 0, 1) := by decide +kernel
theorem dX8_petitions_184 : decode cX8_petitions 184 = .ok (.getfield 7, 3) := by decide +kernel
theorem dX8_petitions_187 : decode cX8_petitions 187 = .ok (.bipush 6, 2) := by decide +kernel
theorem dX8_petitions_189 : decode cX8_petitions 189 = .ok (.dup2, 1) := by decide +kernel
theorem dX8_petitions_190 : decode cX8_petitions 190 = .ok (.iaload, 1) := by decide +kernel
theorem dX8_petitions_191 : decode cX8_petitions 191 = .ok (.iconst 1, 1) := by decide +kernel
theorem dX8_petitions_192 : decode cX8_petitions 192 = .ok (.iadd, 1) := by decide +kernel
theorem dX8_petitions_193 : decode cX8_petitions 193 = .ok (.iastore, 1) := by decide +kernel
theorem dX8_petitions_194 : decode cX8_petitions 194 = .ok (.aload_n 0, 1) := by decide +kernel
theorem dX8_petitions_195 : decode cX8_petitions 195 = .ok (.getfield 7, 3) := by decide +kernel
theorem dX8_petitions_198 : decode cX8_petitions 198 = .ok (.bipush 6, 2) := by decide +kernel
theorem dX8_petitions_200 : decode cX8_petitions 200 = .ok (.iaload, 1) := by decide +kernel
theorem dX8_petitions_201 : decode cX8_petitions 201 = .ok (.iconst 1, 1) := by decide +kernel
theorem dX8_petitions_202 : decode cX8_petitions 202 = .ok (.isub, 1) := by decide +kernel
theorem dX8_petitions_203 : decode cX8_petitions 203 = .ok (.ireturn, 1) := by decide +kernel
theorem dX8_seconds_0 : decode cX8_seconds 0 = .ok (.aload_n 0, 1) := by decide +kernel
theorem dX8_seconds_1 : decode cX8_seconds 1 = .ok (.iload_n 1, 1) := by decide +kernel
theorem dX8_seconds_2 : decode cX8_seconds 2 = .ok (.invokevirtual 84, 3) := by decide +kernel
theorem dX8_seconds_5 : decode cX8_seconds 5 = .ok (.ifCond .eq 11, 3) := by decide +kernel
theorem dX8_seconds_8 : decode cX8_seconds 8 = .ok (.aload_n 0, 1) := by decide +kernel
theorem dX8_seconds_9 : decode cX8_seconds 9 = .ok (.iload_n 2, 1) := by decide +kernel
theorem dX8_seconds_10 : decode cX8_seconds 10 = .ok (.invokevirtual 90, 3) := by decide +kernel
theorem dX8_seconds_13 : decode cX8_seconds 13 = .ok (.ifCond .ne 5, 3) := by decide +kernel
theorem dX8_seconds_16 : decode cX8_seconds 16 = .ok (.iconst (-1), 1) := by decide +kernel
theorem dX8_seconds_17 : decode cX8_seconds 17 = .ok (.ireturn, 1) := by decide +kernel
theorem dX8_seconds_18 : decode cX8_seconds 18 = .ok (.iconst 0, 1) := by decide +kernel
theorem dX8_seconds_19 : decode cX8_seconds 19 = .ok (.iload_n 2, 1) := by decide +kernel
theorem dX8_seconds_20 : decode cX8_seconds 20 = .ok (.invokestatic 36, 3) := by decide +kernel
theorem dX8_seconds_23 : decode cX8_seconds 23 = .ok (.istore_n 3, 1) := by decide +kernel
theorem dX8_seconds_24 : decode cX8_seconds 24 = .ok (.aload_n 0, 1) := by decide +kernel
theorem dX8_seconds_25 : decode cX8_seconds 25 = .ok (.getfield 7, 3) := by decide +kernel
theorem dX8_seconds_28 : decode cX8_seconds 28 = .ok (.iload_n 3, 1) := by decide +kernel
theorem dX8_seconds_29 : decode cX8_seconds 29 = .ok (.iaload, 1) := by decide +kernel
theorem dX8_seconds_30 : decode cX8_seconds 30 = .ok (.iload_n 1, 1) := by decide +kernel
theorem dX8_seconds_31 : decode cX8_seconds 31 = .ok (.if_icmp .ne 6, 3) := by decide +kernel
theorem dX8_seconds_34 : decode cX8_seconds 34 = .ok (.bipush (-4), 2) := by decide +kernel
theorem dX8_seconds_36 : decode cX8_seconds 36 = .ok (.ireturn, 1) := by decide +kernel
theorem dX8_seconds_37 : decode cX8_seconds 37 = .ok (.aload_n 0, 1) := by decide +kernel
theorem dX8_seconds_38 : decode cX8_seconds 38 = .ok (.getfield 7, 3) := by decide +kernel
theorem dX8_seconds_41 : decode cX8_seconds 41 = .ok (.iload_n 3, 1) := by decide +kernel
end
section
theorem dX8_seconds_42 : decode cX8_seconds 42 = .ok (.iconst 4, 1) := by decide +kernel
theorem dX8_seconds_43 : decode cX8_seconds 43 = .ok (.iadd, 1) := by decide +kernel
theorem dX8_seconds_44 : decode cX8_seconds 44 = .ok (.iaload, 1) := by decide +kernel
theorem dX8_seconds_45 : decode cX8_seconds 45 = .ok (.iload_n 1, 1) := by decide +kernel
theorem dX8_seconds_46 : decode cX8_seconds 46 = .ok (.ishr, 1) := by decide +kernel
theorem dX8_seconds_47 : decode cX8_seconds 47 = .ok (.iconst 1, 1) := by decide +kernel
theorem dX8_seconds_48 : decode cX8_seconds 48 = .ok (.iand, 1) := by decide +kernel
theorem dX8_seconds_49 : decode cX8_seconds 49 = .ok (.iconst 1, 1) := by decide +kernel
theorem dX8_seconds_50 : decode cX8_seconds 50 = .ok (.if_icmp .ne 6, 3) := by decide +kernel
theorem dX8_seconds_53 : decode cX8_seconds 53 = .ok (.bipush (-5), 2) := by decide +kernel
theorem dX8_seconds_55 : decode cX8_seconds 55 = .ok (.ireturn, 1) := by decide +kernel
theorem dX8_seconds_56 : decode cX8_seconds 56 = .ok (.aload_n 0, 1) := by decide +kernel
theorem dX8_seconds_57 : decode cX8_seconds 57 = .ok (.getfield 7, 3) := by decide +kernel
theorem dX8_seconds_60 : decode cX8_seconds 60 = .ok (.iload_n 3, 1) := by decide +kernel
theorem dX8_seconds_61 : decode cX8_seconds 61 = .ok (.iconst 4, 1) := by decide +kernel
theorem dX8_seconds_62 : decode cX8_seconds 62 = .ok (.iadd, 1) := by decide +kernel
theorem dX8_seconds_63 : decode cX8_seconds 63 = .ok (.dup2, 1) := by decide +kernel
theorem dX8_seconds_64 : decode cX8_seconds 64 = .ok (.iaload, 1) := by decide +kernel
theorem dX8_seconds_65 : decode cX8_seconds 65 = .ok (.iconst 1, 1) := by decide +kernel
theorem dX8_seconds_66 : decode cX8_seconds 66 = .ok (.iload_n 1, 1) := by decide +kernel
theorem dX8_seconds_67 : decode cX8_seconds 67 = .ok (.ishl, 1) := by decide +kernel
theorem dX8_seconds_68 : decode cX8_seconds 68 = .ok (.ior, 1) := by decide +kernel
theorem dX8_seconds_69 : decode cX8_seconds 69 = .ok (.iastore, 1) := by decide +kernel
theorem dX8_seconds_70 : decode cX8_seconds 70 = .ok (.aload_n 0, 1) := by decide +kernel
theorem dX8_seconds_71 : decode cX8_seconds 71 = .ok (.iconst 0, 1) := by decide +kernel
theorem dX8_seconds_72 : decode cX8_seconds 72 = .ok (.iload_n 2, 1) := by decide +kernel
theorem dX8_seconds_73 : decode cX8_seconds 73 = .ok (.invokevirtual 58, 3) := by decide +kernel
theorem dX8_seconds_76 : decode cX8_seconds 76 = .ok (.ireturn, 1) := by decide +kernel
theorem dX8_ends_0 : decode cX8_ends 0 = .ok (.iload_n 1, 1) := by decide +kernel
theorem dX8_ends_1 : decode cX8_ends 1 = .ok (.iconst 1, 1) := by decide +kernel
theorem dX8_ends_2 : decode cX8_ends 2 = .ok (.bipush 99, 2) := by decide +kernel
theorem dX8_ends_4 : decode cX8_ends 4 = .ok (.invokestatic 76, 3) := by decide +kernel
theorem dX8_ends_7 : decode cX8_ends 7 = .ok (.ifCond .ne 6, 3) := by decide +kernel
theorem dX8_ends_10 : decode cX8_ends 10 = .ok (.bipush (-2), 2) := by decide +kernel
theorem dX8_ends_12 : decode cX8_ends 12 = .ok (.ireturn, 1) := by decide +kernel
theorem dX8_ends_13 : decode cX8_ends 13 = .ok (.aload_n 0, 1) := by decide +kernel
theorem dX8_ends_14 : decode cX8_ends 14 = .ok (.getfield 7, 3) := by decide +kernel
theorem dX8_ends_17 : decode cX8_ends 17 = .ok (.iconst 2, 1) := by decide +kernel
theorem dX8_ends_18 : decode cX8_ends 18 = .ok (.iaload, 1) := by decide +kernel
theorem dX8_ends_19 : decode cX8_ends 19 = .ok (.iload_n 1, 1) := by decide +kernel
theorem dX8_ends_20 : decode cX8_ends 20 = .ok (.iadd, 1) := by decide +kernel
theorem dX8_ends_21 : decode cX8_ends 21 = .ok (.ldc 93, 2) := by decide +kernel
theorem dX8_ends_23 : decode cX8_ends 23 = .ok (.if_icmp .le 6, 3) := by decide +kernel
theorem dX8_ends_26 : decode cX8_ends 26 = .ok (.bipush (-3), 2) := by decide +kernel
theorem dX8_ends_28 : decode cX8_ends 28 = .ok (.ireturn, 1) := by decide +kernel
theorem dX8_ends_29 : decode cX8_ends 29 = .ok (.iconst 0, 1) := by decide +kernel
theorem dX8_ends_30 : decode cX8_ends 30 = .ok (.istore_n 2, 1) := by decide +kernel
theorem dX8_ends_31 : decode cX8_ends 31 = .ok (.iconst 0, 1) := by decide +kernel
theorem dX8_ends_32 : decode cX8_ends 32 = .ok (.istore_n 3, 1) := by decide +kernel
theorem dX8_ends_33 : decode cX8_ends 33 = .ok (.iload_n 3, 1) := by decide +kernel
theorem dX8_ends_34 : decode cX8_ends 34 = .ok (.iload_n 1, 1) := by decide +kernel
theorem dX8_ends_35 : decode cX8_ends 35 = .ok (.if_icmp .ge 17, 3) := by decide +kernel
theorem dX8_ends_38 : decode cX8_ends 38 = .ok (.iload_n 2, 1) := by decide +kernel
theorem dX8_ends_39 : decode cX8_ends 39 = .ok (.aload_n 0, 1) := by decide +kernel
theorem dX8_ends_40 : decode cX8_ends 40 = .ok (.iconst 0, 1) := by decide +kernel
theorem dX8_ends_41 : decode cX8_ends 41 = .ok (.invokevirtual 94, 3) := by decide +kernel
theorem dX8_ends_44 : decode cX8_ends 44 = .ok (.iadd, 1) := by decide +kernel
theorem dX8_ends_45 : decode cX8_ends 45 = .ok (.istore_n 2, 1) := by decide +kernel
theorem dX8_ends_46 : decode cX8_ends 46 = .ok (.iinc 3 1, 3) := by decide +kernel
theorem dX8_ends_49 : decode cX8_ends 49 = .ok (.goto (-16), 3) := by decide +kernel
theorem dX8_ends_52 : decode cX8_ends 52 = .ok (.iload_n 2, 1) := by decide +kernel
theorem dX8_ends_53 : decode cX8_ends 53 = .ok (.ireturn, 1) := by decide +kernel
theorem dX8_sets_0 : decode cX8_sets 0 = .ok (.iload_n 1, 1) := by decide +kernel
theorem dX8_sets_1 : decode cX8_sets 1 = .ok (.iconst 0, 1) := by decide +kernel
theorem dX8_sets_2 : decode cX8_sets 2 = .ok (.iconst 1, 1) := by decide +kernel
theorem dX8_sets_3 : decode cX8_sets 3 = .ok (.invokestatic 76, 3) := by decide +kernel
theorem dX8_sets_6 : decode cX8_sets 6 = .ok (.ifCond .ne 5, 3) := by decide +kernel
theorem dX8_sets_9 : decode cX8_sets 9 = .ok (.iconst (-1), 1) := by decide +kernel
theorem dX8_sets_10 : decode cX8_sets 10 = .ok (.ireturn, 1) := by decide +kernel
theorem dX8_sets_11 : decode cX8_sets 11 = .ok (.iload_n 2, 1) := by decide +kernel
theorem dX8_sets_12 : decode cX8_sets 12 = .ok (.iload_n 1, 1) := by decide +kernel
theorem dX8_sets_13 : decode cX8_sets 13 = .ok (.bipush 60, 2) := by decide +kernel
theorem dX8_sets_15 : decode cX8_sets 15 = .ok (.invokestatic 76, 3) := by decide +kernel
theorem dX8_sets_18 : decode cX8_sets 18 = .ok (.ifCond .ne 6, 3) := by decide +kernel
theorem dX8_sets_21 : decode cX8_sets 21 = .ok (.bipush (-2), 2) := by decide +kernel
theorem dX8_sets_23 : decode cX8_sets 23 = .ok (.ireturn, 1) := by decide +kernel
theorem dX8_sets_24 : decode cX8_sets 24 = .ok (.aload_n 0, 1) := by decide +kernel
theorem dX8_sets_25 : decode cX8_sets 25 = .ok (.getfield 7, 3) := by decide +kernel
theorem dX8_sets_28 : decode cX8_sets 28 = .ok (.iload_n 1, 1) := by decide +kernel
theorem dX8_sets_29 : decode cX8_sets 29 = .ok (.iaload, 1) := by decide +kernel
theorem dX8_sets_30 : decode cX8_sets 30 = .ok (.istore_n 3, 1) := by decide +kernel
theorem dX8_sets_31 : decode cX8_sets 31 = .ok (.aload_n 0, 1) := by decide +kernel
theorem dX8_sets_32 : decode cX8_sets 32 = .ok (.getfield 7, 3) := by decide +kernel
theorem dX8_sets_35 : decode cX8_sets 35 = .ok (.iload_n 1, 1) := by decide +kernel
theorem dX8_sets_36 : decode cX8_sets 36 = .ok (.iload_n 2, 1) := by decide +kernel
theorem dX8_sets_37 : decode cX8_sets 37 = .ok (.iastore, 1) := by decide +kernel
theorem dX8_sets_38 : decode cX8_sets 38 = .ok (.iload_n 3, 1) := by decide +kernel
theorem dX8_sets_39 : decode cX8_sets 39 = .ok (.iload_n 2, 1) := by decide +kernel
theorem dX8_sets_40 : decode cX8_sets 40 = .ok (.if_icmp .ne 8, 3) := by decide +kernel
theorem dX8_sets_43 : decode cX8_sets 43 = .ok (.bipush (-5), 2) := by decide +kernel
theorem dX8_sets_45 : decode cX8_sets 45 = .ok (.goto 4, 3) := by decide +kernel
theorem dX8_sets_48 : decode cX8_sets 48 = .ok (.iload_n 3, 1) := by decide +kernel
theorem dX8_sets_49 : decode cX8_sets 49 = .ok (.ireturn, 1) := by decide +kernel
theorem dX8_done_0 : decode cX8_done 0 = .ok (.iload_n 1, 1) := by decide +kernel
theorem dX8_done_1 : decode cX8_done 1 = .ok (.ifCond .lt 9, 3) := by decide +kernel
theorem dX8_done_4 : decode cX8_done 4 = .ok (.aload_n 0, 1) := by decide +kernel
theorem dX8_done_5 : decode cX8_done 5 = .ok (.bipush 6, 2) := by decide +kernel
theorem dX8_done_7 : decode cX8_done 7 = .ok (.invokevirtual 97, 3) := by decide +kernel
theorem dX8_done_10 : decode cX8_done 10 = .ok (.iload_n 1, 1) := by decide +kernel
theorem dX8_done_11 : decode cX8_done 11 = .ok (.ireturn, 1) := by decide +kernel
theorem dX8_come_0 : decode cX8_come 0 = .ok (.aload_n 0, 1) := by decide +kernel
theorem dX8_come_1 : decode cX8_come 1 = .ok (.iconst 0, 1) := by decide +kernel
theorem dX8_come_2 : decode cX8_come 2 = .ok (.bipush 6, 2) := by decide +kernel
theorem dX8_come_4 : decode cX8_come 4 = .ok (.invokevirtual 32, 3) := by decide +kernel
theorem dX8_come_7 : decode cX8_come 7 = .ok (.aload_n 0, 1) := by decide +kernel
theorem dX8_come_8 : decode cX8_come 8 = .ok (.aload_n 0, 1) := by decide +kernel
theorem dX8_come_9 : decode cX8_come 9 = .ok (.iload_n 1, 1) := by decide +kernel
theorem dX8_come_10 : decode cX8_come 10 = .ok (.iload_n 2, 1) := by decide +kernel
theorem dX8_come_11 : decode cX8_come 11 = .ok (.invokevirtual 100, 3) := by decide +kernel
theorem dX8_come_14 : decode cX8_come 14 = .ok (.invokevirtual 103, 3) := by decide +kernel
theorem dX8_come_17 : decode cX8_come 17 = .ok (.ireturn, 1) := by decide +kernel
theorem dX8_move_0 : decode cX8_move 0 = .ok (.aload_n 0, 1) := by decide +kernel
theorem dX8_move_1 : decode cX8_move 1 = .ok (.iconst 0, 1) := by decide +kernel
theorem dX8_move_2 : decode cX8_move 2 = .ok (.bipush 6, 2) := by decide +kernel
theorem dX8_move_4 : decode cX8_move 4 = .ok (.invokevirtual 32, 3) := by decide +kernel
theorem dX8_move_7 : decode cX8_move 7 = .ok (.aload_n 0, 1) := by decide +kernel
theorem dX8_move_8 : decode cX8_move 8 = .ok (.aload_n 0, 1) := by decide +kernel
theorem dX8_move_9 : decode cX8_move 9 = .ok (.iload_n 1, 1) := by decide +kernel
theorem dX8_move_10 : decode cX8_move 10 = .ok (.iload_n 2, 1) := by decide +kernel
theorem dX8_move_11 : decode cX8_move 11 = .ok (.invokevirtual 106, 3) := by decide +kernel
theorem dX8_move_14 : decode cX8_move 14 = .ok (.invokevirtual 103, 3) := by decide +kernel
theorem dX8_move_17 : decode cX8_move 17 = .ok (.ireturn, 1) := by decide +kernel
theorem dX8_petition_0 : decode cX8_petition 0 = .ok (.aload_n 0, 1) := by decide +kernel
theorem dX8_petition_1 : decode cX8_petition 1 = .ok (.iconst 0, 1) := by decide +kernel
theorem dX8_petition_2 : decode cX8_petition 2 = .ok (.bipush 6, 2) := by decide +kernel
theorem dX8_petition_4 : decode cX8_petition 4 = .ok (.invokevirtual 32, 3) := by decide +kernel
theorem dX8_petition_7 : decode cX8_petition 7 = .ok (.aload_n 0, 1) := by decide +kernel
theorem dX8_petition_8 : decode cX8_petition 8 = .ok (.aload_n 0, 1) := by decide +kernel
theorem dX8_petition_9 : decode cX8_petition 9 = .ok (.iload_n 1, 1) := by decide +kernel
theorem dX8_petition_10 : decode cX8_petition 10 = .ok (.iload_n 2, 1) := by decide +kernel
theorem dX8_petition_11 : decode cX8_petition 11 = .ok (.iload_n 3, 1) := by decide +kernel
theorem dX8_petition_12 : decode cX8_petition 12 = .ok (.iload 4, 2) := by decide +kernel
theorem dX8_petition_14 : decode cX8_petition 14 = .ok (.invokevirtual 109, 3) := by decide +kernel
theorem dX8_petition_17 : decode cX8_petition 17 = .ok (.invokevirtual 103, 3) := by decide +kernel
theorem dX8_petition_20 : decode cX8_petition 20 = .ok (.ireturn, 1) := by decide +kernel
theorem dX8_second_0 : decode cX8_second 0 = .ok (.aload_n 0, 1) := by decide +kernel
theorem dX8_second_1 : decode cX8_second 1 = .ok (.iconst 0, 1) := by decide +kernel
theorem dX8_second_2 : decode cX8_second 2 = .ok (.bipush 6, 2) := by decide +kernel
theorem dX8_second_4 : decode cX8_second 4 = .ok (.invokevirtual 32, 3) := by decide +kernel
theorem dX8_second_7 : decode cX8_second 7 = .ok (.aload_n 0, 1) := by decide +kernel
theorem dX8_second_8 : decode cX8_second 8 = .ok (.aload_n 0, 1) := by decide +kernel
theorem dX8_second_9 : decode cX8_second 9 = .ok (.iload_n 1, 1) := by decide +kernel
theorem dX8_second_10 : decode cX8_second 10 = .ok (.iload_n 2, 1) := by decide +kernel
theorem dX8_second_11 : decode cX8_second 11 = .ok (.invokevirtual 112, 3) := by decide +kernel
theorem dX8_second_14 : decode cX8_second 14 = .ok (.invokevirtual 103, 3) := by decide +kernel
theorem dX8_second_17 : decode cX8_second 17 = .ok (.ireturn, 1) := by decide +kernel
theorem dX8_pass_0 : decode cX8_pass 0 = .ok (.aload_n 0, 1) := by decide +kernel
theorem dX8_pass_1 : decode cX8_pass 1 = .ok (.iconst 0, 1) := by decide +kernel
theorem dX8_pass_2 : decode cX8_pass 2 = .ok (.bipush 6, 2) := by decide +kernel
theorem dX8_pass_4 : decode cX8_pass 4 = .ok (.invokevirtual 32, 3) := by decide +kernel
theorem dX8_pass_7 : decode cX8_pass 7 = .ok (.aload_n 0, 1) := by decide +kernel
theorem dX8_pass_8 : decode cX8_pass 8 = .ok (.aload_n 0, 1) := by decide +kernel
theorem dX8_pass_9 : decode cX8_pass 9 = .ok (.iload_n 1, 1) := by decide +kernel
theorem dX8_pass_10 : decode cX8_pass 10 = .ok (.invokevirtual 115, 3) := by decide +kernel
theorem dX8_pass_13 : decode cX8_pass 13 = .ok (.invokevirtual 103, 3) := by decide +kernel
theorem dX8_pass_16 : decode cX8_pass 16 = .ok (.ireturn, 1) := by decide +kernel
theorem dX8_set_0 : decode cX8_set 0 = .ok (.aload_n 0, 1) := by decide +kernel
theorem dX8_set_1 : decode cX8_set 1 = .ok (.iconst 0, 1) := by decide +kernel
theorem dX8_set_2 : decode cX8_set 2 = .ok (.bipush 6, 2) := by decide +kernel
theorem dX8_set_4 : decode cX8_set 4 = .ok (.invokevirtual 32, 3) := by decide +kernel
theorem dX8_set_7 : decode cX8_set 7 = .ok (.aload_n 0, 1) := by decide +kernel
theorem dX8_set_8 : decode cX8_set 8 = .ok (.aload_n 0, 1) := by decide +kernel
theorem dX8_set_9 : decode cX8_set 9 = .ok (.iload_n 1, 1) := by decide +kernel
theorem dX8_set_10 : decode cX8_set 10 = .ok (.iload_n 2, 1) := by decide +kernel
theorem dX8_set_11 : decode cX8_set 11 = .ok (.invokevirtual 118, 3) := by decide +kernel
theorem dX8_set_14 : decode cX8_set 14 = .ok (.invokevirtual 103, 3) := by decide +kernel
theorem dX8_set_17 : decode cX8_set 17 = .ok (.ireturn, 1) := by decide +kernel
theorem dX8_type_0 : decode cX8_type 0 = .ok (.aload_n 0, 1) := by decide +kernel
theorem dX8_type_1 : decode cX8_type 1 = .ok (.getfield 121, 3) := by decide +kernel
theorem dX8_type_4 : decode cX8_type 4 = .ok (.bipush 60, 2) := by decide +kernel
theorem dX8_type_6 : decode cX8_type 6 = .ok (.if_icmp .ne 6, 3) := by decide +kernel
theorem dX8_type_9 : decode cX8_type 9 = .ok (.bipush (-3), 2) := by decide +kernel
theorem dX8_type_11 : decode cX8_type 11 = .ok (.ireturn, 1) := by decide +kernel
theorem dX8_type_12 : decode cX8_type 12 = .ok (.aload_n 0, 1) := by decide +kernel
theorem dX8_type_13 : decode cX8_type 13 = .ok (.getfield 13, 3) := by decide +kernel
theorem dX8_type_16 : decode cX8_type 16 = .ok (.aload_n 0, 1) := by decide +kernel
theorem dX8_type_17 : decode cX8_type 17 = .ok (.getfield 121, 3) := by decide +kernel
theorem dX8_type_20 : decode cX8_type 20 = .ok (.iload_n 1, 1) := by decide +kernel
theorem dX8_type_21 : decode cX8_type 21 = .ok (.iastore, 1) := by decide +kernel
theorem dX8_type_22 : decode cX8_type 22 = .ok (.aload_n 0, 1) := by decide +kernel
theorem dX8_type_23 : decode cX8_type 23 = .ok (.dup, 1) := by decide +kernel
theorem dX8_type_24 : decode cX8_type 24 = .ok (.getfield 121, 3) := by decide +kernel
theorem dX8_type_27 : decode cX8_type 27 = .ok (.iconst 1, 1) := by decide +kernel
theorem dX8_type_28 : decode cX8_type 28 = .ok (.iadd, 1) := by decide +kernel
theorem dX8_type_29 : decode cX8_type 29 = .ok (.putfield 121, 3) := by decide +kernel
theorem dX8_type_32 : decode cX8_type 32 = .ok (.aload_n 0, 1) := by decide +kernel
theorem dX8_type_33 : decode cX8_type 33 = .ok (.getfield 121, 3) := by decide +kernel
theorem dX8_type_36 : decode cX8_type 36 = .ok (.ireturn, 1) := by decide +kernel
theorem dX8_clearText_0 : decode cX8_clearText 0 = .ok (.aload_n 0, 1) := by decide +kernel
theorem dX8_clearText_1 : decode cX8_clearText 1 = .ok (.getfield 121, 3) := by decide +kernel
theorem dX8_clearText_4 : decode cX8_clearText 4 = .ok (.istore_n 1, 1) := by decide +kernel
theorem dX8_clearText_5 : decode cX8_clearText 5 = .ok (.aload_n 0, 1) := by decide +kernel
theorem dX8_clearText_6 : decode cX8_clearText 6 = .ok (.iconst 0, 1) := by decide +kernel
theorem dX8_clearText_7 : decode cX8_clearText 7 = .ok (.putfield 121, 3) := by decide +kernel
theorem dX8_clearText_10 : decode cX8_clearText 10 = .ok (.iload_n 1, 1) := by decide +kernel
theorem dX8_clearText_11 : decode cX8_clearText 11 = .ok (.ireturn, 1) := by decide +kernel
theorem dX8_isHere_0 : decode cX8_isHere 0 = .ok (.aload_n 0, 1) := by decide +kernel
theorem dX8_isHere_1 : decode cX8_isHere 1 = .ok (.getfield 124, 3) := by decide +kernel
theorem dX8_isHere_4 : decode cX8_isHere 4 = .ok (.aload_n 0, 1) := by decide +kernel
theorem dX8_isHere_5 : decode cX8_isHere 5 = .ok (.getfield 121, 3) := by decide +kernel
theorem dX8_isHere_8 : decode cX8_isHere 8 = .ok (.if_icmp .ge 24, 3) := by decide +kernel
theorem dX8_isHere_11 : decode cX8_isHere 11 = .ok (.aload_n 0, 1) := by decide +kernel
theorem dX8_isHere_12 : decode cX8_isHere 12 = .ok (.getfield 13, 3) := by decide +kernel
theorem dX8_isHere_15 : decode cX8_isHere 15 = .ok (.aload_n 0, 1) := by decide +kernel
theorem dX8_isHere_16 : decode cX8_isHere 16 = .ok (.getfield 124, 3) := by decide +kernel
theorem dX8_isHere_19 : decode cX8_isHere 19 = .ok (.iaload, 1) := by decide +kernel
theorem dX8_isHere_20 : decode cX8_isHere 20 = .ok (.iload_n 1, 1) := by decide +kernel
theorem dX8_isHere_21 : decode cX8_isHere 21 = .ok (.iload_n 2, 1) := by decide +kernel
theorem dX8_isHere_22 : decode cX8_isHere 22 = .ok (.invokestatic 76, 3) := by decide +kernel
theorem dX8_isHere_25 : decode cX8_isHere 25 = .ok (.ifCond .eq 7, 3) := by decide +kernel
theorem dX8_isHere_28 : decode cX8_isHere 28 = .ok (.iconst 1, 1) := by decide +kernel
theorem dX8_isHere_29 : decode cX8_isHere 29 = .ok (.goto 4, 3) := by decide +kernel
theorem dX8_isHere_32 : decode cX8_isHere 32 = .ok (.iconst 0, 1) := by decide +kernel
theorem dX8_isHere_33 : decode cX8_isHere 33 = .ok (.ireturn, 1) := by decide +kernel
theorem dX8_takes_0 : decode cX8_takes 0 = .ok (.aload_n 0, 1) := by decide +kernel
theorem dX8_takes_1 : decode cX8_takes 1 = .ok (.iload_n 1, 1) := by decide +kernel
theorem dX8_takes_2 : decode cX8_takes 2 = .ok (.iload_n 1, 1) := by decide +kernel
theorem dX8_takes_3 : decode cX8_takes 3 = .ok (.invokevirtual 127, 3) := by decide +kernel
theorem dX8_takes_6 : decode cX8_takes 6 = .ok (.istore_n 2, 1) := by decide +kernel
theorem dX8_takes_7 : decode cX8_takes 7 = .ok (.aload_n 0, 1) := by decide +kernel
theorem dX8_takes_8 : decode cX8_takes 8 = .ok (.dup, 1) := by decide +kernel
theorem dX8_takes_9 : decode cX8_takes 9 = .ok (.getfield 124, 3) := by decide +kernel
theorem dX8_takes_12 : decode cX8_takes 12 = .ok (.iload_n 2, 1) := by decide +kernel
theorem dX8_takes_13 : decode cX8_takes 13 = .ok (.invokestatic 54, 3) := by decide +kernel
theorem dX8_takes_16 : decode cX8_takes 16 = .ok (.iadd, 1) := by decide +kernel
theorem dX8_takes_17 : decode cX8_takes 17 = .ok (.putfield 124, 3) := by decide +kernel
theorem dX8_takes_20 : decode cX8_takes 20 = .ok (.iload_n 2, 1) := by decide +kernel
theorem dX8_takes_21 : decode cX8_takes 21 = .ok (.ireturn, 1) := by decide +kernel
theorem dX8_number_0 : decode cX8_number 0 = .ok (.bipush (-5), 2) := by decide +kernel
theorem dX8_number_2 : decode cX8_number 2 = .ok (.istore_n 3, 1) := by decide +kernel
theorem dX8_number_3 : decode cX8_number 3 = .ok (.aload_n 0, 1) := by decide +kernel
theorem dX8_number_4 : decode cX8_number 4 = .ok (.iload_n 1, 1) := by decide +kernel
theorem dX8_number_5 : decode cX8_number 5 = .ok (.ifCond .ne 8, 3) := by decide +kernel
theorem dX8_number_8 : decode cX8_number 8 = .ok (.bipush 48, 2) := by decide +kernel
theorem dX8_number_10 : decode cX8_number 10 = .ok (.goto 5, 3) := by decide +kernel
theorem dX8_number_13 : decode cX8_number 13 = .ok (.bipush 49, 2) := by decide +kernel
theorem dX8_number_15 : decode cX8_number 15 = .ok (.bipush 57, 2) := by decide +kernel
theorem dX8_number_17 : decode cX8_number 17 = .ok (.invokevirtual 127, 3) := by decide +kernel
theorem dX8_number_20 : decode cX8_number 20 = .ok (.ifCond .eq 23, 3) := by decide +kernel
theorem dX8_number_23 : decode cX8_number 23 = .ok (.aload_n 0, 1) := by decide +kernel
theorem dX8_number_24 : decode cX8_number 24 = .ok (.getfield 13, 3) := by decide +kernel
theorem dX8_number_27 : decode cX8_number 27 = .ok (.aload_n 0, 1) := by decide +kernel
theorem dX8_number_28 : decode cX8_number 28 = .ok (.getfield 124, 3) := by decide +kernel
theorem dX8_number_31 : decode cX8_number 31 = .ok (.iaload, 1) := by decide +kernel
theorem dX8_number_32 : decode cX8_number 32 = .ok (.bipush 48, 2) := by decide +kernel
theorem dX8_number_34 : decode cX8_number 34 = .ok (.isub, 1) := by decide +kernel
theorem dX8_number_35 : decode cX8_number 35 = .ok (.iload_n 2, 1) := by decide +kernel
theorem dX8_number_36 : decode cX8_number 36 = .ok (.if_icmp .gt 7, 3) := by decide +kernel
theorem dX8_number_39 : decode cX8_number 39 = .ok (.iconst 1, 1) := by decide +kernel
theorem dX8_number_40 : decode cX8_number 40 = .ok (.goto 4, 3) := by decide +kernel
theorem dX8_number_43 : decode cX8_number 43 = .ok (.iconst 0, 1) := by decide +kernel
theorem dX8_number_44 : decode cX8_number 44 = .ok (.istore 4, 2) := by decide +kernel
theorem dX8_number_46 : decode cX8_number 46 = .ok (.iload 4, 2) := by decide +kernel
theorem dX8_number_48 : decode cX8_number 48 = .ok (.ifCond .eq 98, 3) := by decide +kernel
theorem dX8_number_51 : decode cX8_number 51 = .ok (.iload_n 3, 1) := by decide +kernel
theorem dX8_number_52 : decode cX8_number 52 = .ok (.bipush (-5), 2) := by decide +kernel
theorem dX8_number_54 : decode cX8_number 54 = .ok (.if_icmp .ne 18, 3) := by decide +kernel
theorem dX8_number_57 : decode cX8_number 57 = .ok (.aload_n 0, 1) := by decide +kernel
theorem dX8_number_58 : decode cX8_number 58 = .ok (.getfield 13, 3) := by decide +kernel
theorem dX8_number_61 : decode cX8_number 61 = .ok (.aload_n 0, 1) := by decide +kernel
theorem dX8_number_62 : decode cX8_number 62 = .ok (.getfield 124, 3) := by decide +kernel
theorem dX8_number_65 : decode cX8_number 65 = .ok (.iaload, 1) := by decide +kernel
theorem dX8_number_66 : decode cX8_number 66 = .ok (.bipush 48, 2) := by decide +kernel
theorem dX8_number_68 : decode cX8_number 68 = .ok (.isub, 1) := by decide +kernel
theorem dX8_number_69 : decode cX8_number 69 = .ok (.goto 20, 3) := by decide +kernel
theorem dX8_number_72 : decode cX8_number 72 = .ok (.bipush 10, 2) := by decide +kernel
theorem dX8_number_74 : decode cX8_number 74 = .ok (.iload_n 3, 1) := by decide +kernel
theorem dX8_number_75 : decode cX8_number 75 = .ok (.imul, 1) := by decide +kernel
theorem dX8_number_76 : decode cX8_number 76 = .ok (.aload_n 0, 1) := by decide +kernel
theorem dX8_number_77 : decode cX8_number 77 = .ok (.getfield 13, 3) := by decide +kernel
theorem dX8_number_80 : decode cX8_number 80 = .ok (.aload_n 0, 1) := by decide +kernel
theorem dX8_number_81 : decode cX8_number 81 = .ok (.getfield 124, 3) := by decide +kernel
theorem dX8_number_84 : decode cX8_number 84 = .ok (.iaload, 1) := by decide +kernel
theorem dX8_number_85 : decode cX8_number 85 = .ok (.iadd, 1) := by decide +kernel
theorem dX8_number_86 : decode cX8_number 86 = .ok (.bipush 48, 2) := by decide +kernel
theorem dX8_number_88 : decode cX8_number 88 = .ok (.isub, 1) := by decide +kernel
theorem dX8_number_89 : decode cX8_number 89 = .ok (.istore_n 3, 1) := by decide +kernel
theorem dX8_number_90 : decode cX8_number 90 = .ok (.aload_n 0, 1) := by decide +kernel
theorem dX8_number_91 : decode cX8_number 91 = .ok (.dup, 1) := by decide +kernel
theorem dX8_number_92 : decode cX8_number 92 = .ok (.getfield 124, 3) := by decide +kernel
theorem dX8_number_95 : decode cX8_number 95 = .ok (.iconst 1, 1) := by decide +kernel
theorem dX8_number_96 : decode cX8_number 96 = .ok (.iadd, 1) := by decide +kernel
theorem dX8_number_97 : decode cX8_number 97 = .ok (.putfield 124, 3) := by decide +kernel
theorem dX8_number_100 : decode cX8_number 100 = .ok (.iload_n 3, 1) := by decide +kernel
theorem dX8_number_101 : decode cX8_number 101 = .ok (.ifCond .le 39, 3) := by decide +kernel
theorem dX8_number_104 : decode cX8_number 104 = .ok (.aload_n 0, 1) := by decide +kernel
theorem dX8_number_105 : decode cX8_number 105 = .ok (.bipush 48, 2) := by decide +kernel
theorem dX8_number_107 : decode cX8_number 107 = .ok (.bipush 57, 2) := by decide +kernel
theorem dX8_number_109 : decode cX8_number 109 = .ok (.invokevirtual 127, 3) := by decide +kernel
theorem dX8_number_112 : decode cX8_number 112 = .ok (.ifCond .eq 28, 3) := by decide +kernel
theorem dX8_number_115 : decode cX8_number 115 = .ok (.bipush 10, 2) := by decide +kernel
theorem dX8_number_117 : decode cX8_number 117 = .ok (.iload_n 3, 1) := by decide +kernel
theorem dX8_number_118 : decode cX8_number 118 = .ok (.imul, 1) := by decide +kernel
theorem dX8_number_119 : decode cX8_number 119 = .ok (.aload_n 0, 1) := by decide +kernel
theorem dX8_number_120 : decode cX8_number 120 = .ok (.getfield 13, 3) := by decide +kernel
theorem dX8_number_123 : decode cX8_number 123 = .ok (.aload_n 0, 1) := by decide +kernel
theorem dX8_number_124 : decode cX8_number 124 = .ok (.getfield 124, 3) := by decide +kernel
theorem dX8_number_127 : decode cX8_number 127 = .ok (.iaload, 1) := by decide +kernel
theorem dX8_number_128 : decode cX8_number 128 = .ok (.iadd, 1) := by decide +kernel
theorem dX8_number_129 : decode cX8_number 129 = .ok (.bipush 48, 2) := by decide +kernel
theorem dX8_number_131 : decode cX8_number 131 = .ok (.isub, 1) := by decide +kernel
theorem dX8_number_132 : decode cX8_number 132 = .ok (.iload_n 2, 1) := by decide +kernel
theorem dX8_number_133 : decode cX8_number 133 = .ok (.if_icmp .gt 7, 3) := by decide +kernel
theorem dX8_number_136 : decode cX8_number 136 = .ok (.iconst 1, 1) := by decide +kernel
theorem dX8_number_137 : decode cX8_number 137 = .ok (.goto 4, 3) := by decide +kernel
theorem dX8_number_140 : decode cX8_number 140 = .ok (.iconst 0, 1) := by decide +kernel
theorem dX8_number_141 : decode cX8_number 141 = .ok (.istore 4, 2) := by decide +kernel
theorem dX8_number_143 : decode cX8_number 143 = .ok (.goto (-97), 3) := by decide +kernel
theorem dX8_number_146 : decode cX8_number 146 = .ok (.iload_n 3, 1) := by decide +kernel
theorem dX8_number_147 : decode cX8_number 147 = .ok (.ireturn, 1) := by decide +kernel
theorem dX8_readsPetition_0 : decode cX8_readsPetition 0 = .ok (.aload_n 0, 1) := by decide +kernel
theorem dX8_readsPetition_1 : decode cX8_readsPetition 1 = .ok (.aload_n 0, 1) := by decide +kernel
theorem dX8_readsPetition_2 : decode cX8_readsPetition 2 = .ok (.iconst 0, 1) := by decide +kernel
theorem dX8_readsPetition_3 : decode cX8_readsPetition 3 = .ok (.bipush 11, 2) := by decide +kernel
theorem dX8_readsPetition_5 : decode cX8_readsPetition 5 = .ok (.invokevirtual 131, 3) := by decide +kernel
theorem dX8_readsPetition_8 : decode cX8_readsPetition 8 = .ok (.putfield 134, 3) := by decide +kernel
theorem dX8_readsPetition_11 : decode cX8_readsPetition 11 = .ok (.aload_n 0, 1) := by decide +kernel
theorem dX8_readsPetition_12 : decode cX8_readsPetition 12 = .ok (.aload_n 0, 1) := by decide +kernel
theorem dX8_readsPetition_13 : decode cX8_readsPetition 13 = .ok (.getfield 134, 3) := by decide +kernel
theorem dX8_readsPetition_16 : decode cX8_readsPetition 16 = .ok (.bipush (-5), 2) := by decide +kernel
theorem dX8_readsPetition_18 : decode cX8_readsPetition 18 = .ok (.if_icmp .eq 22, 3) := by decide +kernel
theorem dX8_readsPetition_21 : decode cX8_readsPetition 21 = .ok (.aload_n 0, 1) := by decide +kernel
theorem dX8_readsPetition_22 : decode cX8_readsPetition 22 = .ok (.bipush 58, 2) := by decide +kernel
theorem dX8_readsPetition_24 : decode cX8_readsPetition 24 = .ok (.invokevirtual 137, 3) := by decide +kernel
theorem dX8_readsPetition_27 : decode cX8_readsPetition 27 = .ok (.ifCond .eq 13, 3) := by decide +kernel
theorem dX8_readsPetition_30 : decode cX8_readsPetition 30 = .ok (.aload_n 0, 1) := by decide +kernel
theorem dX8_readsPetition_31 : decode cX8_readsPetition 31 = .ok (.iconst 0, 1) := by decide +kernel
theorem dX8_readsPetition_32 : decode cX8_readsPetition 32 = .ok (.bipush 6, 2) := by decide +kernel
theorem dX8_readsPetition_34 : decode cX8_readsPetition 34 = .ok (.invokevirtual 131, 3) := by decide +kernel
theorem dX8_readsPetition_37 : decode cX8_readsPetition 37 = .ok (.goto 5, 3) := by decide +kernel
theorem dX8_readsPetition_40 : decode cX8_readsPetition 40 = .ok (.bipush (-5), 2) := by decide +kernel
theorem dX8_readsPetition_42 : decode cX8_readsPetition 42 = .ok (.putfield 140, 3) := by decide +kernel
theorem dX8_readsPetition_45 : decode cX8_readsPetition 45 = .ok (.aload_n 0, 1) := by decide +kernel
theorem dX8_readsPetition_46 : decode cX8_readsPetition 46 = .ok (.aload_n 0, 1) := by decide +kernel
theorem dX8_readsPetition_47 : decode cX8_readsPetition 47 = .ok (.getfield 140, 3) := by decide +kernel
theorem dX8_readsPetition_50 : decode cX8_readsPetition 50 = .ok (.bipush (-5), 2) := by decide +kernel
theorem dX8_readsPetition_52 : decode cX8_readsPetition 52 = .ok (.if_icmp .eq 22, 3) := by decide +kernel
theorem dX8_readsPetition_55 : decode cX8_readsPetition 55 = .ok (.aload_n 0, 1) := by decide +kernel
theorem dX8_readsPetition_56 : decode cX8_readsPetition 56 = .ok (.bipush 46, 2) := by decide +kernel
theorem dX8_readsPetition_58 : decode cX8_readsPetition 58 = .ok (.invokevirtual 137, 3) := by decide +kernel
theorem dX8_readsPetition_61 : decode cX8_readsPetition 61 = .ok (.ifCond .eq 13, 3) := by decide +kernel
theorem dX8_readsPetition_64 : decode cX8_readsPetition 64 = .ok (.aload_n 0, 1) := by decide +kernel
theorem dX8_readsPetition_65 : decode cX8_readsPetition 65 = .ok (.iconst 0, 1) := by decide +kernel
theorem dX8_readsPetition_66 : decode cX8_readsPetition 66 = .ok (.bipush 19, 2) := by decide +kernel
theorem dX8_readsPetition_68 : decode cX8_readsPetition 68 = .ok (.invokevirtual 131, 3) := by decide +kernel
theorem dX8_readsPetition_71 : decode cX8_readsPetition 71 = .ok (.goto 5, 3) := by decide +kernel
theorem dX8_readsPetition_74 : decode cX8_readsPetition 74 = .ok (.bipush (-5), 2) := by decide +kernel
theorem dX8_readsPetition_76 : decode cX8_readsPetition 76 = .ok (.putfield 143, 3) := by decide +kernel
theorem dX8_readsPetition_79 : decode cX8_readsPetition 79 = .ok (.aload_n 0, 1) := by decide +kernel
theorem dX8_readsPetition_80 : decode cX8_readsPetition 80 = .ok (.aload_n 0, 1) := by decide +kernel
theorem dX8_readsPetition_81 : decode cX8_readsPetition 81 = .ok (.getfield 143, 3) := by decide +kernel
theorem dX8_readsPetition_84 : decode cX8_readsPetition 84 = .ok (.bipush (-5), 2) := by decide +kernel
theorem dX8_readsPetition_86 : decode cX8_readsPetition 86 = .ok (.if_icmp .ne 8, 3) := by decide +kernel
theorem dX8_readsPetition_89 : decode cX8_readsPetition 89 = .ok (.bipush (-5), 2) := by decide +kernel
theorem dX8_readsPetition_91 : decode cX8_readsPetition 91 = .ok (.goto 44, 3) := by decide +kernel
theorem dX8_readsPetition_94 : decode cX8_readsPetition 94 = .ok (.aload_n 0, 1) := by decide +kernel
theorem dX8_readsPetition_95 : decode cX8_readsPetition 95 = .ok (.bipush 43, 2) := by decide +kernel
theorem dX8_readsPetition_97 : decode cX8_readsPetition 97 = .ok (.invokevirtual 137, 3) := by decide +kernel
theorem dX8_readsPetition_100 : decode cX8_readsPetition 100 = .ok (.ifCond .eq 7, 3) := by decide +kernel
theorem dX8_readsPetition_103 : decode cX8_readsPetition 103 = .ok (.iconst 1, 1) := by decide +kernel
theorem dX8_readsPetition_104 : decode cX8_readsPetition 104 = .ok (.goto 31, 3) := by decide +kernel
theorem dX8_readsPetition_107 : decode cX8_readsPetition 107 = .ok (.aload_n 0, 1) := by decide +kernel
theorem dX8_readsPetition_108 : decode cX8_readsPetition 108 = .ok (.bipush 45, 2) := by decide +kernel
theorem dX8_readsPetition_110 : decode cX8_readsPetition 110 = .ok (.invokevirtual 137, 3) := by decide +kernel
theorem dX8_readsPetition_113 : decode cX8_readsPetition 113 = .ok (.ifCond .eq 7, 3) := by decide +kernel
theorem dX8_readsPetition_116 : decode cX8_readsPetition 116 = .ok (.iconst 0, 1) := by decide +kernel
theorem dX8_readsPetition_117 : decode cX8_readsPetition 117 = .ok (.goto 18, 3) := by decide +kernel
theorem dX8_readsPetition_120 : decode cX8_readsPetition 120 = .ok (.aload_n 0, 1) := by decide +kernel
theorem dX8_readsPetition_121 : decode cX8_readsPetition 121 = .ok (.bipush 120, 2) := by decide +kernel
theorem dX8_readsPetition_123 : decode cX8_readsPetition 123 = .ok (.invokevirtual 137, 3) := by decide +kernel
theorem dX8_readsPetition_126 : decode cX8_readsPetition 126 = .ok (.ifCond .eq 7, 3) := by decide +kernel
theorem dX8_readsPetition_129 : decode cX8_readsPetition 129 = .ok (.iconst 2, 1) := by decide +kernel
theorem dX8_readsPetition_130 : decode cX8_readsPetition 130 = .ok (.goto 5, 3) := by decide +kernel
theorem dX8_readsPetition_133 : decode cX8_readsPetition 133 = .ok (.bipush (-5), 2) := by decide +kernel
theorem dX8_readsPetition_135 : decode cX8_readsPetition 135 = .ok (.putfield 146, 3) := by decide +kernel
theorem dX8_readsPetition_138 : decode cX8_readsPetition 138 = .ok (.aload_n 0, 1) := by decide +kernel
theorem dX8_readsPetition_139 : decode cX8_readsPetition 139 = .ok (.getfield 146, 3) := by decide +kernel
theorem dX8_readsPetition_142 : decode cX8_readsPetition 142 = .ok (.bipush (-5), 2) := by decide +kernel
theorem dX8_readsPetition_144 : decode cX8_readsPetition 144 = .ok (.if_icmp .eq 7, 3) := by decide +kernel
theorem dX8_readsPetition_147 : decode cX8_readsPetition 147 = .ok (.iconst 1, 1) := by decide +kernel
theorem dX8_readsPetition_148 : decode cX8_readsPetition 148 = .ok (.goto 4, 3) := by decide +kernel
theorem dX8_readsPetition_151 : decode cX8_readsPetition 151 = .ok (.iconst 0, 1) := by decide +kernel
theorem dX8_readsPetition_152 : decode cX8_readsPetition 152 = .ok (.ireturn, 1) := by decide +kernel
theorem dX8_readsThing_0 : decode cX8_readsThing 0 = .ok (.aload_n 0, 1) := by decide +kernel
theorem dX8_readsThing_1 : decode cX8_readsThing 1 = .ok (.aload_n 0, 1) := by decide +kernel
theorem dX8_readsThing_2 : decode cX8_readsThing 2 = .ok (.getfield 124, 3) := by decide +kernel
theorem dX8_readsThing_5 : decode cX8_readsThing 5 = .ok (.aload_n 0, 1) := by decide +kernel
theorem dX8_readsThing_6 : decode cX8_readsThing 6 = .ok (.getfield 121, 3) := by decide +kernel
theorem dX8_readsThing_9 : decode cX8_readsThing 9 = .ok (.if_icmp .ge 15, 3) := by decide +kernel
theorem dX8_readsThing_12 : decode cX8_readsThing 12 = .ok (.aload_n 0, 1) := by decide +kernel
theorem dX8_readsThing_13 : decode cX8_readsThing 13 = .ok (.getfield 13, 3) := by decide +kernel
theorem dX8_readsThing_16 : decode cX8_readsThing 16 = .ok (.aload_n 0, 1) := by decide +kernel
theorem dX8_readsThing_17 : decode cX8_readsThing 17 = .ok (.getfield 124, 3) := by decide +kernel
theorem dX8_readsThing_20 : decode cX8_readsThing 20 = .ok (.iaload, 1) := by decide +kernel
theorem dX8_readsThing_21 : decode cX8_readsThing 21 = .ok (.goto 4, 3) := by decide +kernel
theorem dX8_readsThing_24 : decode cX8_readsThing 24 = .ok (.iconst 0, 1) := by decide +kernel
theorem dX8_readsThing_25 : decode cX8_readsThing 25 = .ok (.putfield 149, 3) := by decide +kernel
theorem dX8_readsThing_28 : decode cX8_readsThing 28 = .ok (.aload_n 0, 1) := by decide +kernel
theorem dX8_readsThing_29 : decode cX8_readsThing 29 = .ok (.dup, 1) := by decide +kernel
theorem dX8_readsThing_30 : decode cX8_readsThing 30 = .ok (.getfield 124, 3) := by decide +kernel
theorem dX8_readsThing_33 : decode cX8_readsThing 33 = .ok (.iconst 1, 1) := by decide +kernel
theorem dX8_readsThing_34 : decode cX8_readsThing 34 = .ok (.iadd, 1) := by decide +kernel
theorem dX8_readsThing_35 : decode cX8_readsThing 35 = .ok (.putfield 124, 3) := by decide +kernel
theorem dX8_readsThing_38 : decode cX8_readsThing 38 = .ok (.aload_n 0, 1) := by decide +kernel
theorem dX8_readsThing_39 : decode cX8_readsThing 39 = .ok (.getfield 149, 3) := by decide +kernel
theorem dX8_readsThing_42 : decode cX8_readsThing 42 = .ok (.lookupswitch 125 #[(46, 99), (112, 34), (121, 39)], 34) := by decide +kernel
theorem dX8_readsThing_76 : decode cX8_readsThing 76 = .ok (.aload_n 0, 1) := by decide +kernel
theorem dX8_readsThing_77 : decode cX8_readsThing 77 = .ok (.invokevirtual 152, 3) := by decide +kernel
theorem dX8_readsThing_80 : decode cX8_readsThing 80 = .ok (.ireturn, 1) := by decide +kernel
theorem dX8_readsThing_81 : decode cX8_readsThing 81 = .ok (.aload_n 0, 1) := by decide +kernel
theorem dX8_readsThing_82 : decode cX8_readsThing 82 = .ok (.aload_n 0, 1) := by decide +kernel
theorem dX8_readsThing_83 : decode cX8_readsThing 83 = .ok (.iconst 0, 1) := by decide +kernel
theorem dX8_readsThing_84 : decode cX8_readsThing 84 = .ok (.bipush 11, 2) := by decide +kernel
theorem dX8_readsThing_86 : decode cX8_readsThing 86 = .ok (.invokevirtual 131, 3) := by decide +kernel
theorem dX8_readsThing_89 : decode cX8_readsThing 89 = .ok (.putfield 134, 3) := by decide +kernel
theorem dX8_readsThing_92 : decode cX8_readsThing 92 = .ok (.aload_n 0, 1) := by decide +kernel
theorem dX8_readsThing_93 : decode cX8_readsThing 93 = .ok (.aload_n 0, 1) := by decide +kernel
theorem dX8_readsThing_94 : decode cX8_readsThing 94 = .ok (.getfield 134, 3) := by decide +kernel
theorem dX8_readsThing_97 : decode cX8_readsThing 97 = .ok (.bipush (-5), 2) := by decide +kernel
theorem dX8_readsThing_99 : decode cX8_readsThing 99 = .ok (.if_icmp .eq 22, 3) := by decide +kernel
theorem dX8_readsThing_102 : decode cX8_readsThing 102 = .ok (.aload_n 0, 1) := by decide +kernel
theorem dX8_readsThing_103 : decode cX8_readsThing 103 = .ok (.bipush 58, 2) := by decide +kernel
theorem dX8_readsThing_105 : decode cX8_readsThing 105 = .ok (.invokevirtual 137, 3) := by decide +kernel
theorem dX8_readsThing_108 : decode cX8_readsThing 108 = .ok (.ifCond .eq 13, 3) := by decide +kernel
theorem dX8_readsThing_111 : decode cX8_readsThing 111 = .ok (.aload_n 0, 1) := by decide +kernel
theorem dX8_readsThing_112 : decode cX8_readsThing 112 = .ok (.iconst 0, 1) := by decide +kernel
theorem dX8_readsThing_113 : decode cX8_readsThing 113 = .ok (.bipush 11, 2) := by decide +kernel
theorem dX8_readsThing_115 : decode cX8_readsThing 115 = .ok (.invokevirtual 131, 3) := by decide +kernel
theorem dX8_readsThing_118 : decode cX8_readsThing 118 = .ok (.goto 5, 3) := by decide +kernel
theorem dX8_readsThing_121 : decode cX8_readsThing 121 = .ok (.bipush (-5), 2) := by decide +kernel
theorem dX8_readsThing_123 : decode cX8_readsThing 123 = .ok (.putfield 140, 3) := by decide +kernel
theorem dX8_readsThing_126 : decode cX8_readsThing 126 = .ok (.aload_n 0, 1) := by decide +kernel
theorem dX8_readsThing_127 : decode cX8_readsThing 127 = .ok (.getfield 140, 3) := by decide +kernel
theorem dX8_readsThing_130 : decode cX8_readsThing 130 = .ok (.bipush (-5), 2) := by decide +kernel
theorem dX8_readsThing_132 : decode cX8_readsThing 132 = .ok (.if_icmp .eq 7, 3) := by decide +kernel
theorem dX8_readsThing_135 : decode cX8_readsThing 135 = .ok (.iconst 1, 1) := by decide +kernel
theorem dX8_readsThing_136 : decode cX8_readsThing 136 = .ok (.goto 4, 3) := by decide +kernel
theorem dX8_readsThing_139 : decode cX8_readsThing 139 = .ok (.iconst 0, 1) := by decide +kernel
theorem dX8_readsThing_140 : decode cX8_readsThing 140 = .ok (.ireturn, 1) := by decide +kernel
theorem dX8_readsThing_141 : decode cX8_readsThing 141 = .ok (.aload_n 0, 1) := by decide +kernel
theorem dX8_readsThing_142 : decode cX8_readsThing 142 = .ok (.aload_n 0, 1) := by decide +kernel
theorem dX8_readsThing_143 : decode cX8_readsThing 143 = .ok (.iconst 1, 1) := by decide +kernel
theorem dX8_readsThing_144 : decode cX8_readsThing 144 = .ok (.bipush 99, 2) := by decide +kernel
theorem dX8_readsThing_146 : decode cX8_readsThing 146 = .ok (.invokevirtual 131, 3) := by decide +kernel
theorem dX8_readsThing_149 : decode cX8_readsThing 149 = .ok (.putfield 134, 3) := by decide +kernel
theorem dX8_readsThing_152 : decode cX8_readsThing 152 = .ok (.aload_n 0, 1) := by decide +kernel
theorem dX8_readsThing_153 : decode cX8_readsThing 153 = .ok (.getfield 134, 3) := by decide +kernel
theorem dX8_readsThing_156 : decode cX8_readsThing 156 = .ok (.bipush (-5), 2) := by decide +kernel
theorem dX8_readsThing_158 : decode cX8_readsThing 158 = .ok (.if_icmp .eq 7, 3) := by decide +kernel
theorem dX8_readsThing_161 : decode cX8_readsThing 161 = .ok (.iconst 1, 1) := by decide +kernel
theorem dX8_readsThing_162 : decode cX8_readsThing 162 = .ok (.goto 4, 3) := by decide +kernel
theorem dX8_readsThing_165 : decode cX8_readsThing 165 = .ok (.iconst 0, 1) := by decide +kernel
theorem dX8_readsThing_166 : decode cX8_readsThing 166 = .ok (.ireturn, 1) := by decide +kernel
theorem dX8_readsThing_167 : decode cX8_readsThing 167 = .ok (.aload_n 0, 1) := by decide +kernel
theorem dX8_readsThing_168 : decode cX8_readsThing 168 = .ok (.dup, 1) := by decide +kernel
theorem dX8_readsThing_169 : decode cX8_readsThing 169 = .ok (.getfield 124, 3) := by decide +kernel
theorem dX8_readsThing_172 : decode cX8_readsThing 172 = .ok (.iconst 1, 1) := by decide +kernel
theorem dX8_readsThing_173 : decode cX8_readsThing 173 = .ok (.isub, 1) := by decide +kernel
theorem dX8_readsThing_174 : decode cX8_readsThing 174 = .ok (.putfield 124, 3) := by decide +kernel
theorem dX8_readsThing_177 : decode cX8_readsThing 177 = .ok (.iconst 0, 1) := by decide +kernel
theorem dX8_readsThing_178 : decode cX8_readsThing 178 = .ok (.ireturn, 1) := by decide +kernel
theorem dX8_fault_0 : decode cX8_fault 0 = .ok (.aload_n 0, 1) := by decide +kernel
theorem dX8_fault_1 : decode cX8_fault 1 = .ok (.iconst 0, 1) := by decide +kernel
theorem dX8_fault_2 : decode cX8_fault 2 = .ok (.putfield 124, 3) := by decide +kernel
theorem dX8_fault_5 : decode cX8_fault 5 = .ok (.iconst 1, 1) := by decide +kernel
theorem dX8_fault_6 : decode cX8_fault 6 = .ok (.istore_n 1, 1) := by decide +kernel
theorem dX8_fault_7 : decode cX8_fault 7 = .ok (.iload_n 1, 1) := by decide +kernel
theorem dX8_fault_8 : decode cX8_fault 8 = .ok (.ifCond .eq 25, 3) := by decide +kernel
theorem dX8_fault_11 : decode cX8_fault 11 = .ok (.aload_n 0, 1) := by decide +kernel
theorem dX8_fault_12 : decode cX8_fault 12 = .ok (.invokevirtual 156, 3) := by decide +kernel
theorem dX8_fault_15 : decode cX8_fault 15 = .ok (.ifCond .ne 8, 3) := by decide +kernel
theorem dX8_fault_18 : decode cX8_fault 18 = .ok (.aload_n 0, 1) := by decide +kernel
theorem dX8_fault_19 : decode cX8_fault 19 = .ok (.getfield 124, 3) := by decide +kernel
theorem dX8_fault_22 : decode cX8_fault 22 = .ok (.ireturn, 1) := by decide +kernel
theorem dX8_fault_23 : decode cX8_fault 23 = .ok (.aload_n 0, 1) := by decide +kernel
theorem dX8_fault_24 : decode cX8_fault 24 = .ok (.bipush 59, 2) := by decide +kernel
theorem dX8_fault_26 : decode cX8_fault 26 = .ok (.invokevirtual 137, 3) := by decide +kernel
theorem dX8_fault_29 : decode cX8_fault 29 = .ok (.istore_n 1, 1) := by decide +kernel
theorem dX8_fault_30 : decode cX8_fault 30 = .ok (.goto (-23), 3) := by decide +kernel
theorem dX8_fault_33 : decode cX8_fault 33 = .ok (.aload_n 0, 1) := by decide +kernel
theorem dX8_fault_34 : decode cX8_fault 34 = .ok (.getfield 124, 3) := by decide +kernel
theorem dX8_fault_37 : decode cX8_fault 37 = .ok (.aload_n 0, 1) := by decide +kernel
theorem dX8_fault_38 : decode cX8_fault 38 = .ok (.getfield 121, 3) := by decide +kernel
theorem dX8_fault_41 : decode cX8_fault 41 = .ok (.if_icmp .ne 8, 3) := by decide +kernel
theorem dX8_fault_44 : decode cX8_fault 44 = .ok (.bipush (-5), 2) := by decide +kernel
theorem dX8_fault_46 : decode cX8_fault 46 = .ok (.goto 7, 3) := by decide +kernel
theorem dX8_fault_49 : decode cX8_fault 49 = .ok (.aload_n 0, 1) := by decide +kernel
theorem dX8_fault_50 : decode cX8_fault 50 = .ok (.getfield 124, 3) := by decide +kernel
theorem dX8_fault_53 : decode cX8_fault 53 = .ok (.ireturn, 1) := by decide +kernel
theorem dX8_does_0 : decode cX8_does 0 = .ok (.aload_n 0, 1) := by decide +kernel
theorem dX8_does_1 : decode cX8_does 1 = .ok (.getfield 149, 3) := by decide +kernel
theorem dX8_does_4 : decode cX8_does 4 = .ok (.bipush 112, 2) := by decide +kernel
theorem dX8_does_6 : decode cX8_does 6 = .ok (.if_icmp .ne 26, 3) := by decide +kernel
theorem dX8_does_9 : decode cX8_does 9 = .ok (.aload_n 0, 1) := by decide +kernel
theorem dX8_does_10 : decode cX8_does 10 = .ok (.aload_n 0, 1) := by decide +kernel
theorem dX8_does_11 : decode cX8_does 11 = .ok (.getfield 134, 3) := by decide +kernel
theorem dX8_does_14 : decode cX8_does 14 = .ok (.aload_n 0, 1) := by decide +kernel
theorem dX8_does_15 : decode cX8_does 15 = .ok (.getfield 140, 3) := by decide +kernel
theorem dX8_does_18 : decode cX8_does 18 = .ok (.aload_n 0, 1) := by decide +kernel
theorem dX8_does_19 : decode cX8_does 19 = .ok (.getfield 143, 3) := by decide +kernel
theorem dX8_does_22 : decode cX8_does 22 = .ok (.aload_n 0, 1) := by decide +kernel
theorem dX8_does_23 : decode cX8_does 23 = .ok (.getfield 146, 3) := by decide +kernel
theorem dX8_does_26 : decode cX8_does 26 = .ok (.invokevirtual 109, 3) := by decide +kernel
theorem dX8_does_29 : decode cX8_does 29 = .ok (.goto 35, 3) := by decide +kernel
theorem dX8_does_32 : decode cX8_does 32 = .ok (.aload_n 0, 1) := by decide +kernel
theorem dX8_does_33 : decode cX8_does 33 = .ok (.getfield 149, 3) := by decide +kernel
theorem dX8_does_36 : decode cX8_does 36 = .ok (.bipush 121, 2) := by decide +kernel
theorem dX8_does_38 : decode cX8_does 38 = .ok (.if_icmp .ne 18, 3) := by decide +kernel
theorem dX8_does_41 : decode cX8_does 41 = .ok (.aload_n 0, 1) := by decide +kernel
theorem dX8_does_42 : decode cX8_does 42 = .ok (.aload_n 0, 1) := by decide +kernel
theorem dX8_does_43 : decode cX8_does 43 = .ok (.getfield 134, 3) := by decide +kernel
theorem dX8_does_46 : decode cX8_does 46 = .ok (.aload_n 0, 1) := by decide +kernel
theorem dX8_does_47 : decode cX8_does 47 = .ok (.getfield 140, 3) := by decide +kernel
theorem dX8_does_50 : decode cX8_does 50 = .ok (.invokevirtual 112, 3) := by decide +kernel
theorem dX8_does_53 : decode cX8_does 53 = .ok (.goto 11, 3) := by decide +kernel
theorem dX8_does_56 : decode cX8_does 56 = .ok (.aload_n 0, 1) := by decide +kernel
theorem dX8_does_57 : decode cX8_does 57 = .ok (.aload_n 0, 1) := by decide +kernel
theorem dX8_does_58 : decode cX8_does 58 = .ok (.getfield 134, 3) := by decide +kernel
theorem dX8_does_61 : decode cX8_does 61 = .ok (.invokevirtual 115, 3) := by decide +kernel
theorem dX8_does_64 : decode cX8_does 64 = .ok (.ireturn, 1) := by decide +kernel
theorem dX8_perform_0 : decode cX8_perform 0 = .ok (.aload_n 0, 1) := by decide +kernel
theorem dX8_perform_1 : decode cX8_perform 1 = .ok (.invokevirtual 159, 3) := by decide +kernel
theorem dX8_perform_4 : decode cX8_perform 4 = .ok (.istore_n 1, 1) := by decide +kernel
theorem dX8_perform_5 : decode cX8_perform 5 = .ok (.iload_n 1, 1) := by decide +kernel
theorem dX8_perform_6 : decode cX8_perform 6 = .ok (.bipush (-5), 2) := by decide +kernel
theorem dX8_perform_8 : decode cX8_perform 8 = .ok (.if_icmp .eq 8, 3) := by decide +kernel
theorem dX8_perform_11 : decode cX8_perform 11 = .ok (.bipush (-100), 2) := by decide +kernel
theorem dX8_perform_13 : decode cX8_perform 13 = .ok (.iload_n 1, 1) := by decide +kernel
theorem dX8_perform_14 : decode cX8_perform 14 = .ok (.isub, 1) := by decide +kernel
theorem dX8_perform_15 : decode cX8_perform 15 = .ok (.ireturn, 1) := by decide +kernel
theorem dX8_perform_16 : decode cX8_perform 16 = .ok (.aload_n 0, 1) := by decide +kernel
theorem dX8_perform_17 : decode cX8_perform 17 = .ok (.iconst 0, 1) := by decide +kernel
theorem dX8_perform_18 : decode cX8_perform 18 = .ok (.bipush 6, 2) := by decide +kernel
theorem dX8_perform_20 : decode cX8_perform 20 = .ok (.invokevirtual 32, 3) := by decide +kernel
theorem dX8_perform_23 : decode cX8_perform 23 = .ok (.aload_n 0, 1) := by decide +kernel
theorem dX8_perform_24 : decode cX8_perform 24 = .ok (.iconst 0, 1) := by decide +kernel
theorem dX8_perform_25 : decode cX8_perform 25 = .ok (.putfield 124, 3) := by decide +kernel
theorem dX8_perform_28 : decode cX8_perform 28 = .ok (.iconst 0, 1) := by decide +kernel
theorem dX8_perform_29 : decode cX8_perform 29 = .ok (.istore_n 2, 1) := by decide +kernel
theorem dX8_perform_30 : decode cX8_perform 30 = .ok (.iconst 1, 1) := by decide +kernel
theorem dX8_perform_31 : decode cX8_perform 31 = .ok (.istore_n 3, 1) := by decide +kernel
theorem dX8_perform_32 : decode cX8_perform 32 = .ok (.iload_n 3, 1) := by decide +kernel
theorem dX8_perform_33 : decode cX8_perform 33 = .ok (.ifCond .eq 61, 3) := by decide +kernel
theorem dX8_perform_36 : decode cX8_perform 36 = .ok (.aload_n 0, 1) := by decide +kernel
theorem dX8_perform_37 : decode cX8_perform 37 = .ok (.invokevirtual 156, 3) := by decide +kernel
theorem dX8_perform_40 : decode cX8_perform 40 = .ok (.istore 4, 2) := by decide +kernel
theorem dX8_perform_42 : decode cX8_perform 42 = .ok (.aload_n 0, 1) := by decide +kernel
theorem dX8_perform_43 : decode cX8_perform 43 = .ok (.invokevirtual 163, 3) := by decide +kernel
theorem dX8_perform_46 : decode cX8_perform 46 = .ok (.istore 5, 2) := by decide +kernel
theorem dX8_perform_48 : decode cX8_perform 48 = .ok (.iload 5, 2) := by decide +kernel
theorem dX8_perform_50 : decode cX8_perform 50 = .ok (.ifCond .ge 31, 3) := by decide +kernel
theorem dX8_perform_53 : decode cX8_perform 53 = .ok (.iload 5, 2) := by decide +kernel
theorem dX8_perform_55 : decode cX8_perform 55 = .ok (.bipush (-5), 2) := by decide +kernel
theorem dX8_perform_57 : decode cX8_perform 57 = .ok (.if_icmp .eq 24, 3) := by decide +kernel
theorem dX8_perform_60 : decode cX8_perform 60 = .ok (.aload_n 0, 1) := by decide +kernel
theorem dX8_perform_61 : decode cX8_perform 61 = .ok (.bipush 6, 2) := by decide +kernel
theorem dX8_perform_63 : decode cX8_perform 63 = .ok (.iconst 0, 1) := by decide +kernel
theorem dX8_perform_64 : decode cX8_perform 64 = .ok (.invokevirtual 32, 3) := by decide +kernel
theorem dX8_perform_67 : decode cX8_perform 67 = .ok (.aload_n 0, 1) := by decide +kernel
theorem dX8_perform_68 : decode cX8_perform 68 = .ok (.iload_n 2, 1) := by decide +kernel
theorem dX8_perform_69 : decode cX8_perform 69 = .ok (.putfield 16, 3) := by decide +kernel
theorem dX8_perform_72 : decode cX8_perform 72 = .ok (.aload_n 0, 1) := by decide +kernel
theorem dX8_perform_73 : decode cX8_perform 73 = .ok (.iload 5, 2) := by decide +kernel
theorem dX8_perform_75 : decode cX8_perform 75 = .ok (.putfield 20, 3) := by decide +kernel
theorem dX8_perform_78 : decode cX8_perform 78 = .ok (.bipush (-4), 2) := by decide +kernel
theorem dX8_perform_80 : decode cX8_perform 80 = .ok (.ireturn, 1) := by decide +kernel
theorem dX8_perform_81 : decode cX8_perform 81 = .ok (.iinc 2 1, 3) := by decide +kernel
theorem dX8_perform_84 : decode cX8_perform 84 = .ok (.aload_n 0, 1) := by decide +kernel
theorem dX8_perform_85 : decode cX8_perform 85 = .ok (.bipush 59, 2) := by decide +kernel
theorem dX8_perform_87 : decode cX8_perform 87 = .ok (.invokevirtual 137, 3) := by decide +kernel
theorem dX8_perform_90 : decode cX8_perform 90 = .ok (.istore_n 3, 1) := by decide +kernel
theorem dX8_perform_91 : decode cX8_perform 91 = .ok (.goto (-59), 3) := by decide +kernel
theorem dX8_perform_94 : decode cX8_perform 94 = .ok (.aload_n 0, 1) := by decide +kernel
theorem dX8_perform_95 : decode cX8_perform 95 = .ok (.bipush 6, 2) := by decide +kernel
theorem dX8_perform_97 : decode cX8_perform 97 = .ok (.invokevirtual 97, 3) := by decide +kernel
theorem dX8_perform_100 : decode cX8_perform 100 = .ok (.iload_n 2, 1) := by decide +kernel
theorem dX8_perform_101 : decode cX8_perform 101 = .ok (.ireturn, 1) := by decide +kernel
theorem dX8_stopped_0 : decode cX8_stopped 0 = .ok (.iload_n 1, 1) := by decide +kernel
theorem dX8_stopped_1 : decode cX8_stopped 1 = .ok (.iconst 0, 1) := by decide +kernel
theorem dX8_stopped_2 : decode cX8_stopped 2 = .ok (.iconst 1, 1) := by decide +kernel
theorem dX8_stopped_3 : decode cX8_stopped 3 = .ok (.invokestatic 76, 3) := by decide +kernel
theorem dX8_stopped_6 : decode cX8_stopped 6 = .ok (.ifCond .ne 8, 3) := by decide +kernel
theorem dX8_stopped_9 : decode cX8_stopped 9 = .ok (.bipush (-2), 2) := by decide +kernel
theorem dX8_stopped_11 : decode cX8_stopped 11 = .ok (.goto 18, 3) := by decide +kernel
theorem dX8_stopped_14 : decode cX8_stopped 14 = .ok (.iload_n 1, 1) := by decide +kernel
theorem dX8_stopped_15 : decode cX8_stopped 15 = .ok (.ifCond .ne 10, 3) := by decide +kernel
theorem dX8_stopped_18 : decode cX8_stopped 18 = .ok (.aload_n 0, 1) := by decide +kernel
theorem dX8_stopped_19 : decode cX8_stopped 19 = .ok (.getfield 16, 3) := by decide +kernel
theorem dX8_stopped_22 : decode cX8_stopped 22 = .ok (.goto 7, 3) := by decide +kernel
theorem dX8_stopped_25 : decode cX8_stopped 25 = .ok (.aload_n 0, 1) := by decide +kernel
theorem dX8_stopped_26 : decode cX8_stopped 26 = .ok (.getfield 20, 3) := by decide +kernel
theorem dX8_stopped_29 : decode cX8_stopped 29 = .ok (.ireturn, 1) := by decide +kernel
theorem dX8_undo_0 : decode cX8_undo 0 = .ok (.aload_n 0, 1) := by decide +kernel
theorem dX8_undo_1 : decode cX8_undo 1 = .ok (.getfield 29, 3) := by decide +kernel
theorem dX8_undo_4 : decode cX8_undo 4 = .ok (.ifCond .ne 6, 3) := by decide +kernel
theorem dX8_undo_7 : decode cX8_undo 7 = .ok (.bipush (-5), 2) := by decide +kernel
theorem dX8_undo_9 : decode cX8_undo 9 = .ok (.ireturn, 1) := by decide +kernel
theorem dX8_undo_10 : decode cX8_undo 10 = .ok (.aload_n 0, 1) := by decide +kernel
theorem dX8_undo_11 : decode cX8_undo 11 = .ok (.aload_n 0, 1) := by decide +kernel
theorem dX8_undo_12 : decode cX8_undo 12 = .ok (.getfield 29, 3) := by decide +kernel
theorem dX8_undo_15 : decode cX8_undo 15 = .ok (.iconst 0, 1) := by decide +kernel
theorem dX8_undo_16 : decode cX8_undo 16 = .ok (.invokevirtual 32, 3) := by decide +kernel
theorem dX8_undo_19 : decode cX8_undo 19 = .ok (.aload_n 0, 1) := by decide +kernel
theorem dX8_undo_20 : decode cX8_undo 20 = .ok (.dup, 1) := by decide +kernel
theorem dX8_undo_21 : decode cX8_undo 21 = .ok (.getfield 29, 3) := by decide +kernel
theorem dX8_undo_24 : decode cX8_undo 24 = .ok (.iconst 1, 1) := by decide +kernel
theorem dX8_undo_25 : decode cX8_undo 25 = .ok (.isub, 1) := by decide +kernel
theorem dX8_undo_26 : decode cX8_undo 26 = .ok (.putfield 29, 3) := by decide +kernel
theorem dX8_undo_29 : decode cX8_undo 29 = .ok (.aload_n 0, 1) := by decide +kernel
theorem dX8_undo_30 : decode cX8_undo 30 = .ok (.getfield 29, 3) := by decide +kernel
theorem dX8_undo_33 : decode cX8_undo 33 = .ok (.ireturn, 1) := by decide +kernel
theorem dX8_bylaws_0 : decode cX8_bylaws 0 = .ok (.iconst 0, 1) := by decide +kernel
theorem dX8_bylaws_1 : decode cX8_bylaws 1 = .ok (.istore_n 2, 1) := by decide +kernel
theorem dX8_bylaws_2 : decode cX8_bylaws 2 = .ok (.iconst 0, 1) := by decide +kernel
theorem dX8_bylaws_3 : decode cX8_bylaws 3 = .ok (.istore_n 3, 1) := by decide +kernel
theorem dX8_bylaws_4 : decode cX8_bylaws 4 = .ok (.iload_n 3, 1) := by decide +kernel
theorem dX8_bylaws_5 : decode cX8_bylaws 5 = .ok (.sipush 140, 3) := by decide +kernel
theorem dX8_bylaws_8 : decode cX8_bylaws 8 = .ok (.if_icmp .ge 58, 3) := by decide +kernel
theorem dX8_bylaws_11 : decode cX8_bylaws 11 = .ok (.aload_n 0, 1) := by decide +kernel
theorem dX8_bylaws_12 : decode cX8_bylaws 12 = .ok (.getfield 7, 3) := by decide +kernel
theorem dX8_bylaws_15 : decode cX8_bylaws 15 = .ok (.sipush 192, 3) := by decide +kernel
theorem dX8_bylaws_18 : decode cX8_bylaws 18 = .ok (.iconst 3, 1) := by decide +kernel
theorem dX8_bylaws_19 : decode cX8_bylaws 19 = .ok (.iload_n 3, 1) := by decide +kernel
theorem dX8_bylaws_20 : decode cX8_bylaws 20 = .ok (.imul, 1) := by decide +kernel
theorem dX8_bylaws_21 : decode cX8_bylaws 21 = .ok (.iadd, 1) := by decide +kernel
theorem dX8_bylaws_22 : decode cX8_bylaws 22 = .ok (.iaload, 1) := by decide +kernel
theorem dX8_bylaws_23 : decode cX8_bylaws 23 = .ok (.istore 4, 2) := by decide +kernel
theorem dX8_bylaws_25 : decode cX8_bylaws 25 = .ok (.iload_n 2, 1) := by decide +kernel
theorem dX8_bylaws_26 : decode cX8_bylaws 26 = .ok (.iload_n 1, 1) := by decide +kernel
theorem dX8_bylaws_27 : decode cX8_bylaws 27 = .ok (.ifCond .eq 16, 3) := by decide +kernel
theorem dX8_bylaws_30 : decode cX8_bylaws 30 = .ok (.iload 4, 2) := by decide +kernel
theorem dX8_bylaws_32 : decode cX8_bylaws 32 = .ok (.ifCond .ne 7, 3) := by decide +kernel
theorem dX8_bylaws_35 : decode cX8_bylaws 35 = .ok (.iconst 1, 1) := by decide +kernel
theorem dX8_bylaws_36 : decode cX8_bylaws 36 = .ok (.goto 19, 3) := by decide +kernel
theorem dX8_bylaws_39 : decode cX8_bylaws 39 = .ok (.iconst 0, 1) := by decide +kernel
theorem dX8_bylaws_40 : decode cX8_bylaws 40 = .ok (.goto 15, 3) := by decide +kernel
theorem dX8_bylaws_43 : decode cX8_bylaws 43 = .ok (.iload 4, 2) := by decide +kernel
theorem dX8_bylaws_45 : decode cX8_bylaws 45 = .ok (.bipush (-5), 2) := by decide +kernel
theorem dX8_bylaws_47 : decode cX8_bylaws 47 = .ok (.if_icmp .eq 7, 3) := by decide +kernel
theorem dX8_bylaws_50 : decode cX8_bylaws 50 = .ok (.iconst 1, 1) := by decide +kernel
theorem dX8_bylaws_51 : decode cX8_bylaws 51 = .ok (.goto 4, 3) := by decide +kernel
theorem dX8_bylaws_54 : decode cX8_bylaws 54 = .ok (.iconst 0, 1) := by decide +kernel
theorem dX8_bylaws_55 : decode cX8_bylaws 55 = .ok (.invokestatic 54, 3) := by decide +kernel
theorem dX8_bylaws_58 : decode cX8_bylaws 58 = .ok (.iadd, 1) := by decide +kernel
theorem dX8_bylaws_59 : decode cX8_bylaws 59 = .ok (.istore_n 2, 1) := by decide +kernel
theorem dX8_bylaws_60 : decode cX8_bylaws 60 = .ok (.iinc 3 1, 3) := by decide +kernel
theorem dX8_bylaws_63 : decode cX8_bylaws 63 = .ok (.goto (-59), 3) := by decide +kernel
theorem dX8_bylaws_66 : decode cX8_bylaws 66 = .ok (.iload_n 2, 1) := by decide +kernel
theorem dX8_bylaws_67 : decode cX8_bylaws 67 = .ok (.ireturn, 1) := by decide +kernel
theorem dX8_keep_0 : decode cX8_keep 0 = .ok (.aload_n 0, 1) := by decide +kernel
theorem dX8_keep_1 : decode cX8_keep 1 = .ok (.iconst 0, 1) := by decide +kernel
theorem dX8_keep_2 : decode cX8_keep 2 = .ok (.iconst 5, 1) := by decide +kernel
theorem dX8_keep_3 : decode cX8_keep 3 = .ok (.invokevirtual 32, 3) := by decide +kernel
theorem dX8_keep_6 : decode cX8_keep 6 = .ok (.aload_n 0, 1) := by decide +kernel
theorem dX8_keep_7 : decode cX8_keep 7 = .ok (.iconst 1, 1) := by decide +kernel
theorem dX8_keep_8 : decode cX8_keep 8 = .ok (.putfield 166, 3) := by decide +kernel
theorem dX8_keep_11 : decode cX8_keep 11 = .ok (.aload_n 0, 1) := by decide +kernel
theorem dX8_keep_12 : decode cX8_keep 12 = .ok (.iconst 0, 1) := by decide +kernel
theorem dX8_keep_13 : decode cX8_keep 13 = .ok (.invokevirtual 170, 3) := by decide +kernel
theorem dX8_keep_16 : decode cX8_keep 16 = .ok (.ireturn, 1) := by decide +kernel
theorem dX8_restore_0 : decode cX8_restore 0 = .ok (.aload_n 0, 1) := by decide +kernel
theorem dX8_restore_1 : decode cX8_restore 1 = .ok (.getfield 166, 3) := by decide +kernel
theorem dX8_restore_4 : decode cX8_restore 4 = .ok (.ifCond .ne 6, 3) := by decide +kernel
theorem dX8_restore_7 : decode cX8_restore 7 = .ok (.bipush (-5), 2) := by decide +kernel
theorem dX8_restore_9 : decode cX8_restore 9 = .ok (.ireturn, 1) := by decide +kernel
theorem dX8_restore_10 : decode cX8_restore 10 = .ok (.aload_n 0, 1) := by decide +kernel
theorem dX8_restore_11 : decode cX8_restore 11 = .ok (.iconst 0, 1) := by decide +kernel
theorem dX8_restore_12 : decode cX8_restore 12 = .ok (.invokevirtual 97, 3) := by decide +kernel
theorem dX8_restore_15 : decode cX8_restore 15 = .ok (.aload_n 0, 1) := by decide +kernel
theorem dX8_restore_16 : decode cX8_restore 16 = .ok (.iconst 5, 1) := by decide +kernel
theorem dX8_restore_17 : decode cX8_restore 17 = .ok (.iconst 0, 1) := by decide +kernel
theorem dX8_restore_18 : decode cX8_restore 18 = .ok (.invokevirtual 32, 3) := by decide +kernel
theorem dX8_restore_21 : decode cX8_restore 21 = .ok (.aload_n 0, 1) := by decide +kernel
theorem dX8_restore_22 : decode cX8_restore 22 = .ok (.iconst 0, 1) := by decide +kernel
theorem dX8_restore_23 : decode cX8_restore 23 = .ok (.invokevirtual 170, 3) := by decide +kernel
theorem dX8_restore_26 : decode cX8_restore 26 = .ok (.ireturn, 1) := by decide +kernel
theorem dX8_secondedBy_0 : decode cX8_secondedBy 0 = .ok (.iconst 0, 1) := by decide +kernel
theorem dX8_secondedBy_1 : decode cX8_secondedBy 1 = .ok (.istore_n 2, 1) := by decide +kernel
theorem dX8_secondedBy_2 : decode cX8_secondedBy 2 = .ok (.iconst 0, 1) := by decide +kernel
theorem dX8_secondedBy_3 : decode cX8_secondedBy 3 = .ok (.istore_n 3, 1) := by decide +kernel
theorem dX8_secondedBy_4 : decode cX8_secondedBy 4 = .ok (.iload_n 3, 1) := by decide +kernel
theorem dX8_secondedBy_5 : decode cX8_secondedBy 5 = .ok (.aload_n 0, 1) := by decide +kernel
theorem dX8_secondedBy_6 : decode cX8_secondedBy 6 = .ok (.getfield 7, 3) := by decide +kernel
theorem dX8_secondedBy_9 : decode cX8_secondedBy 9 = .ok (.bipush 6, 2) := by decide +kernel
theorem dX8_secondedBy_11 : decode cX8_secondedBy 11 = .ok (.iaload, 1) := by decide +kernel
theorem dX8_secondedBy_12 : decode cX8_secondedBy 12 = .ok (.if_icmp .ge 30, 3) := by decide +kernel
theorem dX8_secondedBy_15 : decode cX8_secondedBy 15 = .ok (.iload_n 2, 1) := by decide +kernel
theorem dX8_secondedBy_16 : decode cX8_secondedBy 16 = .ok (.aload_n 0, 1) := by decide +kernel
theorem dX8_secondedBy_17 : decode cX8_secondedBy 17 = .ok (.getfield 7, 3) := by decide +kernel
theorem dX8_secondedBy_20 : decode cX8_secondedBy 20 = .ok (.iconst 0, 1) := by decide +kernel
theorem dX8_secondedBy_21 : decode cX8_secondedBy 21 = .ok (.iload_n 3, 1) := by decide +kernel
theorem dX8_secondedBy_22 : decode cX8_secondedBy 22 = .ok (.invokestatic 36, 3) := by decide +kernel
theorem dX8_secondedBy_25 : decode cX8_secondedBy 25 = .ok (.iconst 4, 1) := by decide +kernel
theorem dX8_secondedBy_26 : decode cX8_secondedBy 26 = .ok (.iadd, 1) := by decide +kernel
theorem dX8_secondedBy_27 : decode cX8_secondedBy 27 = .ok (.iaload, 1) := by decide +kernel
theorem dX8_secondedBy_28 : decode cX8_secondedBy 28 = .ok (.iload_n 1, 1) := by decide +kernel
theorem dX8_secondedBy_29 : decode cX8_secondedBy 29 = .ok (.ishr, 1) := by decide +kernel
theorem dX8_secondedBy_30 : decode cX8_secondedBy 30 = .ok (.iconst 1, 1) := by decide +kernel
theorem dX8_secondedBy_31 : decode cX8_secondedBy 31 = .ok (.iand, 1) := by decide +kernel
theorem dX8_secondedBy_32 : decode cX8_secondedBy 32 = .ok (.iload_n 3, 1) := by decide +kernel
theorem dX8_secondedBy_33 : decode cX8_secondedBy 33 = .ok (.ishl, 1) := by decide +kernel
theorem dX8_secondedBy_34 : decode cX8_secondedBy 34 = .ok (.ior, 1) := by decide +kernel
theorem dX8_secondedBy_35 : decode cX8_secondedBy 35 = .ok (.istore_n 2, 1) := by decide +kernel
theorem dX8_secondedBy_36 : decode cX8_secondedBy 36 = .ok (.iinc 3 1, 3) := by decide +kernel
theorem dX8_secondedBy_39 : decode cX8_secondedBy 39 = .ok (.goto (-35), 3) := by decide +kernel
theorem dX8_secondedBy_42 : decode cX8_secondedBy 42 = .ok (.iload_n 2, 1) := by decide +kernel
theorem dX8_secondedBy_43 : decode cX8_secondedBy 43 = .ok (.ireturn, 1) := by decide +kernel
theorem dX8_drone_0 : decode cX8_drone 0 = .ok (.aload_n 0, 1) := by decide +kernel
theorem dX8_drone_1 : decode cX8_drone 1 = .ok (.iload_n 1, 1) := by decide +kernel
theorem dX8_drone_2 : decode cX8_drone 2 = .ok (.invokevirtual 84, 3) := by decide +kernel
theorem dX8_drone_5 : decode cX8_drone 5 = .ok (.ifCond .ne 5, 3) := by decide +kernel
theorem dX8_drone_8 : decode cX8_drone 8 = .ok (.iconst (-1), 1) := by decide +kernel
theorem dX8_drone_9 : decode cX8_drone 9 = .ok (.ireturn, 1) := by decide +kernel
theorem dX8_drone_10 : decode cX8_drone 10 = .ok (.iload_n 2, 1) := by decide +kernel
theorem dX8_drone_11 : decode cX8_drone 11 = .ok (.iconst 0, 1) := by decide +kernel
theorem dX8_drone_12 : decode cX8_drone 12 = .ok (.iconst 2, 1) := by decide +kernel
theorem dX8_drone_13 : decode cX8_drone 13 = .ok (.invokestatic 76, 3) := by decide +kernel
theorem dX8_drone_16 : decode cX8_drone 16 = .ok (.ifCond .eq 18, 3) := by decide +kernel
theorem dX8_drone_19 : decode cX8_drone 19 = .ok (.aload_n 0, 1) := by decide +kernel
theorem dX8_drone_20 : decode cX8_drone 20 = .ok (.getfield 7, 3) := by decide +kernel
theorem dX8_drone_23 : decode cX8_drone 23 = .ok (.iconst 0, 1) := by decide +kernel
theorem dX8_drone_24 : decode cX8_drone 24 = .ok (.iload_n 1, 1) := by decide +kernel
theorem dX8_drone_25 : decode cX8_drone 25 = .ok (.invokestatic 40, 3) := by decide +kernel
theorem dX8_drone_28 : decode cX8_drone 28 = .ok (.iload_n 2, 1) := by decide +kernel
theorem dX8_drone_29 : decode cX8_drone 29 = .ok (.iadd, 1) := by decide +kernel
theorem dX8_drone_30 : decode cX8_drone 30 = .ok (.iaload, 1) := by decide +kernel
theorem dX8_drone_31 : decode cX8_drone 31 = .ok (.goto 45, 3) := by decide +kernel
theorem dX8_drone_34 : decode cX8_drone 34 = .ok (.iload_n 2, 1) := by decide +kernel
theorem dX8_drone_35 : decode cX8_drone 35 = .ok (.iconst 3, 1) := by decide +kernel
theorem dX8_drone_36 : decode cX8_drone 36 = .ok (.if_icmp .ne 11, 3) := by decide +kernel
theorem dX8_drone_39 : decode cX8_drone 39 = .ok (.aload_n 0, 1) := by decide +kernel
theorem dX8_drone_40 : decode cX8_drone 40 = .ok (.iload_n 1, 1) := by decide +kernel
theorem dX8_drone_41 : decode cX8_drone 41 = .ok (.invokevirtual 173, 3) := by decide +kernel
theorem dX8_drone_44 : decode cX8_drone 44 = .ok (.goto 32, 3) := by decide +kernel
theorem dX8_drone_47 : decode cX8_drone 47 = .ok (.iload_n 2, 1) := by decide +kernel
theorem dX8_drone_48 : decode cX8_drone 48 = .ok (.iconst 4, 1) := by decide +kernel
theorem dX8_drone_49 : decode cX8_drone 49 = .ok (.bipush 6, 2) := by decide +kernel
theorem dX8_drone_51 : decode cX8_drone 51 = .ok (.invokestatic 76, 3) := by decide +kernel
theorem dX8_drone_54 : decode cX8_drone 54 = .ok (.ifCond .eq 20, 3) := by decide +kernel
theorem dX8_drone_57 : decode cX8_drone 57 = .ok (.aload_n 0, 1) := by decide +kernel
theorem dX8_drone_58 : decode cX8_drone 58 = .ok (.getfield 7, 3) := by decide +kernel
theorem dX8_drone_61 : decode cX8_drone 61 = .ok (.iconst 0, 1) := by decide +kernel
theorem dX8_drone_62 : decode cX8_drone 62 = .ok (.iload_n 1, 1) := by decide +kernel
theorem dX8_drone_63 : decode cX8_drone 63 = .ok (.invokestatic 40, 3) := by decide +kernel
theorem dX8_drone_66 : decode cX8_drone 66 = .ok (.iload_n 2, 1) := by decide +kernel
theorem dX8_drone_67 : decode cX8_drone 67 = .ok (.iadd, 1) := by decide +kernel
theorem dX8_drone_68 : decode cX8_drone 68 = .ok (.iconst 1, 1) := by decide +kernel
theorem dX8_drone_69 : decode cX8_drone 69 = .ok (.isub, 1) := by decide +kernel
theorem dX8_drone_70 : decode cX8_drone 70 = .ok (.iaload, 1) := by decide +kernel
theorem dX8_drone_71 : decode cX8_drone 71 = .ok (.goto 5, 3) := by decide +kernel
theorem dX8_drone_74 : decode cX8_drone 74 = .ok (.bipush (-2), 2) := by decide +kernel
theorem dX8_drone_76 : decode cX8_drone 76 = .ok (.ireturn, 1) := by decide +kernel
theorem dX8_ranked_0 : decode cX8_ranked 0 = .ok (.iconst 0, 1) := by decide +kernel
theorem dX8_ranked_1 : decode cX8_ranked 1 = .ok (.istore_n 2, 1) := by decide +kernel
theorem dX8_ranked_2 : decode cX8_ranked 2 = .ok (.iconst 0, 1) := by decide +kernel
theorem dX8_ranked_3 : decode cX8_ranked 3 = .ok (.istore_n 3, 1) := by decide +kernel
theorem dX8_ranked_4 : decode cX8_ranked 4 = .ok (.iload_n 3, 1) := by decide +kernel
theorem dX8_ranked_5 : decode cX8_ranked 5 = .ok (.sipush 140, 3) := by decide +kernel
theorem dX8_ranked_8 : decode cX8_ranked 8 = .ok (.if_icmp .ge 36, 3) := by decide +kernel
theorem dX8_ranked_11 : decode cX8_ranked 11 = .ok (.aload_n 0, 1) := by decide +kernel
theorem dX8_ranked_12 : decode cX8_ranked 12 = .ok (.getfield 7, 3) := by decide +kernel
theorem dX8_ranked_15 : decode cX8_ranked 15 = .ok (.sipush 192, 3) := by decide +kernel
theorem dX8_ranked_18 : decode cX8_ranked 18 = .ok (.iconst 3, 1) := by decide +kernel
theorem dX8_ranked_19 : decode cX8_ranked 19 = .ok (.iload_n 3, 1) := by decide +kernel
theorem dX8_ranked_20 : decode cX8_ranked 20 = .ok (.imul, 1) := by decide +kernel
theorem dX8_ranked_21 : decode cX8_ranked 21 = .ok (.iadd, 1) := by decide +kernel
theorem dX8_ranked_22 : decode cX8_ranked 22 = .ok (.iaload, 1) := by decide +kernel
theorem dX8_ranked_23 : decode cX8_ranked 23 = .ok (.bipush (-5), 2) := by decide +kernel
theorem dX8_ranked_25 : decode cX8_ranked 25 = .ok (.if_icmp .eq 13, 3) := by decide +kernel
theorem dX8_ranked_28 : decode cX8_ranked 28 = .ok (.iload_n 2, 1) := by decide +kernel
theorem dX8_ranked_29 : decode cX8_ranked 29 = .ok (.iload_n 1, 1) := by decide +kernel
theorem dX8_ranked_30 : decode cX8_ranked 30 = .ok (.if_icmp .ne 5, 3) := by decide +kernel
theorem dX8_ranked_33 : decode cX8_ranked 33 = .ok (.iload_n 3, 1) := by decide +kernel
theorem dX8_ranked_34 : decode cX8_ranked 34 = .ok (.ireturn, 1) := by decide +kernel
theorem dX8_ranked_35 : decode cX8_ranked 35 = .ok (.iinc 2 1, 3) := by decide +kernel
theorem dX8_ranked_38 : decode cX8_ranked 38 = .ok (.iinc 3 1, 3) := by decide +kernel
theorem dX8_ranked_41 : decode cX8_ranked 41 = .ok (.goto (-37), 3) := by decide +kernel
theorem dX8_ranked_44 : decode cX8_ranked 44 = .ok (.bipush (-5), 2) := by decide +kernel
theorem dX8_ranked_46 : decode cX8_ranked 46 = .ok (.ireturn, 1) := by decide +kernel
theorem dX8_rankOf_0 : decode cX8_rankOf 0 = .ok (.iconst 0, 1) := by decide +kernel
theorem dX8_rankOf_1 : decode cX8_rankOf 1 = .ok (.istore_n 2, 1) := by decide +kernel
theorem dX8_rankOf_2 : decode cX8_rankOf 2 = .ok (.iconst 0, 1) := by decide +kernel
theorem dX8_rankOf_3 : decode cX8_rankOf 3 = .ok (.istore_n 3, 1) := by decide +kernel
theorem dX8_rankOf_4 : decode cX8_rankOf 4 = .ok (.iload_n 3, 1) := by decide +kernel
theorem dX8_rankOf_5 : decode cX8_rankOf 5 = .ok (.iload_n 1, 1) := by decide +kernel
theorem dX8_rankOf_6 : decode cX8_rankOf 6 = .ok (.if_icmp .ge 37, 3) := by decide +kernel
theorem dX8_rankOf_9 : decode cX8_rankOf 9 = .ok (.iload_n 2, 1) := by decide +kernel
theorem dX8_rankOf_10 : decode cX8_rankOf 10 = .ok (.aload_n 0, 1) := by decide +kernel
theorem dX8_rankOf_11 : decode cX8_rankOf 11 = .ok (.getfield 7, 3) := by decide +kernel
theorem dX8_rankOf_14 : decode cX8_rankOf 14 = .ok (.sipush 192, 3) := by decide +kernel
theorem dX8_rankOf_17 : decode cX8_rankOf 17 = .ok (.iconst 3, 1) := by decide +kernel
theorem dX8_rankOf_18 : decode cX8_rankOf 18 = .ok (.iload_n 3, 1) := by decide +kernel
theorem dX8_rankOf_19 : decode cX8_rankOf 19 = .ok (.imul, 1) := by decide +kernel
theorem dX8_rankOf_20 : decode cX8_rankOf 20 = .ok (.iadd, 1) := by decide +kernel
theorem dX8_rankOf_21 : decode cX8_rankOf 21 = .ok (.iaload, 1) := by decide +kernel
theorem dX8_rankOf_22 : decode cX8_rankOf 22 = .ok (.bipush (-5), 2) := by decide +kernel
theorem dX8_rankOf_24 : decode cX8_rankOf 24 = .ok (.if_icmp .eq 7, 3) := by decide +kernel
theorem dX8_rankOf_27 : decode cX8_rankOf 27 = .ok (.iconst 1, 1) := by decide +kernel
theorem dX8_rankOf_28 : decode cX8_rankOf 28 = .ok (.goto 4, 3) := by decide +kernel
theorem dX8_rankOf_31 : decode cX8_rankOf 31 = .ok (.iconst 0, 1) := by decide +kernel
theorem dX8_rankOf_32 : decode cX8_rankOf 32 = .ok (.invokestatic 54, 3) := by decide +kernel
theorem dX8_rankOf_35 : decode cX8_rankOf 35 = .ok (.iadd, 1) := by decide +kernel
theorem dX8_rankOf_36 : decode cX8_rankOf 36 = .ok (.istore_n 2, 1) := by decide +kernel
theorem dX8_rankOf_37 : decode cX8_rankOf 37 = .ok (.iinc 3 1, 3) := by decide +kernel
theorem dX8_rankOf_40 : decode cX8_rankOf 40 = .ok (.goto (-36), 3) := by decide +kernel
theorem dX8_rankOf_43 : decode cX8_rankOf 43 = .ok (.iload_n 2, 1) := by decide +kernel
theorem dX8_rankOf_44 : decode cX8_rankOf 44 = .ok (.ireturn, 1) := by decide +kernel
theorem dX8_bylaw_0 : decode cX8_bylaw 0 = .ok (.iload_n 1, 1) := by decide +kernel
theorem dX8_bylaw_1 : decode cX8_bylaw 1 = .ok (.ifCond .lt 12, 3) := by decide +kernel
theorem dX8_bylaw_4 : decode cX8_bylaw 4 = .ok (.iload_n 2, 1) := by decide +kernel
theorem dX8_bylaw_5 : decode cX8_bylaw 5 = .ok (.iconst 0, 1) := by decide +kernel
theorem dX8_bylaw_6 : decode cX8_bylaw 6 = .ok (.iconst 5, 1) := by decide +kernel
theorem dX8_bylaw_7 : decode cX8_bylaw 7 = .ok (.invokestatic 76, 3) := by decide +kernel
theorem dX8_bylaw_10 : decode cX8_bylaw 10 = .ok (.ifCond .ne 6, 3) := by decide +kernel
theorem dX8_bylaw_13 : decode cX8_bylaw 13 = .ok (.bipush (-2), 2) := by decide +kernel
theorem dX8_bylaw_15 : decode cX8_bylaw 15 = .ok (.ireturn, 1) := by decide +kernel
theorem dX8_bylaw_16 : decode cX8_bylaw 16 = .ok (.aload_n 0, 1) := by decide +kernel
theorem dX8_bylaw_17 : decode cX8_bylaw 17 = .ok (.iload_n 1, 1) := by decide +kernel
theorem dX8_bylaw_18 : decode cX8_bylaw 18 = .ok (.invokevirtual 176, 3) := by decide +kernel
theorem dX8_bylaw_21 : decode cX8_bylaw 21 = .ok (.istore_n 3, 1) := by decide +kernel
theorem dX8_bylaw_22 : decode cX8_bylaw 22 = .ok (.iload_n 3, 1) := by decide +kernel
theorem dX8_bylaw_23 : decode cX8_bylaw 23 = .ok (.bipush (-5), 2) := by decide +kernel
theorem dX8_bylaw_25 : decode cX8_bylaw 25 = .ok (.if_icmp .ne 6, 3) := by decide +kernel
theorem dX8_bylaw_28 : decode cX8_bylaw 28 = .ok (.bipush (-5), 2) := by decide +kernel
theorem dX8_bylaw_30 : decode cX8_bylaw 30 = .ok (.ireturn, 1) := by decide +kernel
theorem dX8_bylaw_31 : decode cX8_bylaw 31 = .ok (.iload_n 2, 1) := by decide +kernel
theorem dX8_bylaw_32 : decode cX8_bylaw 32 = .ok (.ifCond .ne 10, 3) := by decide +kernel
theorem dX8_bylaw_35 : decode cX8_bylaw 35 = .ok (.iload_n 3, 1) := by decide +kernel
theorem dX8_bylaw_36 : decode cX8_bylaw 36 = .ok (.bipush 20, 2) := by decide +kernel
theorem dX8_bylaw_38 : decode cX8_bylaw 38 = .ok (.idiv, 1) := by decide +kernel
theorem dX8_bylaw_39 : decode cX8_bylaw 39 = .ok (.goto 48, 3) := by decide +kernel
theorem dX8_bylaw_42 : decode cX8_bylaw 42 = .ok (.iload_n 2, 1) := by decide +kernel
theorem dX8_bylaw_43 : decode cX8_bylaw 43 = .ok (.iconst 1, 1) := by decide +kernel
theorem dX8_bylaw_44 : decode cX8_bylaw 44 = .ok (.if_icmp .ne 10, 3) := by decide +kernel
theorem dX8_bylaw_47 : decode cX8_bylaw 47 = .ok (.iload_n 3, 1) := by decide +kernel
theorem dX8_bylaw_48 : decode cX8_bylaw 48 = .ok (.bipush 20, 2) := by decide +kernel
theorem dX8_bylaw_50 : decode cX8_bylaw 50 = .ok (.irem, 1) := by decide +kernel
theorem dX8_bylaw_51 : decode cX8_bylaw 51 = .ok (.goto 36, 3) := by decide +kernel
theorem dX8_bylaw_54 : decode cX8_bylaw 54 = .ok (.iload_n 2, 1) := by decide +kernel
theorem dX8_bylaw_55 : decode cX8_bylaw 55 = .ok (.iconst 5, 1) := by decide +kernel
theorem dX8_bylaw_56 : decode cX8_bylaw 56 = .ok (.if_icmp .ne 15, 3) := by decide +kernel
theorem dX8_bylaw_59 : decode cX8_bylaw 59 = .ok (.aload_n 0, 1) := by decide +kernel
theorem dX8_bylaw_60 : decode cX8_bylaw 60 = .ok (.iconst 0, 1) := by decide +kernel
theorem dX8_bylaw_61 : decode cX8_bylaw 61 = .ok (.iload_n 3, 1) := by decide +kernel
theorem dX8_bylaw_62 : decode cX8_bylaw 62 = .ok (.bipush 20, 2) := by decide +kernel
theorem dX8_bylaw_64 : decode cX8_bylaw 64 = .ok (.idiv, 1) := by decide +kernel
theorem dX8_bylaw_65 : decode cX8_bylaw 65 = .ok (.invokevirtual 51, 3) := by decide +kernel
theorem dX8_bylaw_68 : decode cX8_bylaw 68 = .ok (.goto 19, 3) := by decide +kernel
theorem dX8_bylaw_71 : decode cX8_bylaw 71 = .ok (.aload_n 0, 1) := by decide +kernel
theorem dX8_bylaw_72 : decode cX8_bylaw 72 = .ok (.getfield 7, 3) := by decide +kernel
theorem dX8_bylaw_75 : decode cX8_bylaw 75 = .ok (.sipush 192, 3) := by decide +kernel
theorem dX8_bylaw_78 : decode cX8_bylaw 78 = .ok (.iconst 3, 1) := by decide +kernel
theorem dX8_bylaw_79 : decode cX8_bylaw 79 = .ok (.iload_n 3, 1) := by decide +kernel
theorem dX8_bylaw_80 : decode cX8_bylaw 80 = .ok (.imul, 1) := by decide +kernel
theorem dX8_bylaw_81 : decode cX8_bylaw 81 = .ok (.iadd, 1) := by decide +kernel
theorem dX8_bylaw_82 : decode cX8_bylaw 82 = .ok (.iload_n 2, 1) := by decide +kernel
theorem dX8_bylaw_83 : decode cX8_bylaw 83 = .ok (.iadd, 1) := by decide +kernel
theorem dX8_bylaw_84 : decode cX8_bylaw 84 = .ok (.iconst 2, 1) := by decide +kernel
theorem dX8_bylaw_85 : decode cX8_bylaw 85 = .ok (.isub, 1) := by decide +kernel
theorem dX8_bylaw_86 : decode cX8_bylaw 86 = .ok (.iaload, 1) := by decide +kernel
theorem dX8_bylaw_87 : decode cX8_bylaw 87 = .ok (.ireturn, 1) := by decide +kernel
theorem dX8_petitionOf_0 : decode cX8_petitionOf 0 = .ok (.aload_n 0, 1) := by decide +kernel
theorem dX8_petitionOf_1 : decode cX8_petitionOf 1 = .ok (.iload_n 1, 1) := by decide +kernel
theorem dX8_petitionOf_2 : decode cX8_petitionOf 2 = .ok (.invokevirtual 90, 3) := by decide +kernel
theorem dX8_petitionOf_5 : decode cX8_petitionOf 5 = .ok (.ifCond .ne 5, 3) := by decide +kernel
theorem dX8_petitionOf_8 : decode cX8_petitionOf 8 = .ok (.iconst (-1), 1) := by decide +kernel
theorem dX8_petitionOf_9 : decode cX8_petitionOf 9 = .ok (.ireturn, 1) := by decide +kernel
theorem dX8_petitionOf_10 : decode cX8_petitionOf 10 = .ok (.iconst 0, 1) := by decide +kernel
theorem dX8_petitionOf_11 : decode cX8_petitionOf 11 = .ok (.iload_n 1, 1) := by decide +kernel
theorem dX8_petitionOf_12 : decode cX8_petitionOf 12 = .ok (.invokestatic 36, 3) := by decide +kernel
theorem dX8_petitionOf_15 : decode cX8_petitionOf 15 = .ok (.istore_n 3, 1) := by decide +kernel
theorem dX8_petitionOf_16 : decode cX8_petitionOf 16 = .ok (.iload_n 2, 1) := by decide +kernel
theorem dX8_petitionOf_17 : decode cX8_petitionOf 17 = .ok (.iconst 0, 1) := by decide +kernel
theorem dX8_petitionOf_18 : decode cX8_petitionOf 18 = .ok (.iconst 3, 1) := by decide +kernel
theorem dX8_petitionOf_19 : decode cX8_petitionOf 19 = .ok (.invokestatic 76, 3) := by decide +kernel
theorem dX8_petitionOf_22 : decode cX8_petitionOf 22 = .ok (.ifCond .eq 14, 3) := by decide +kernel
theorem dX8_petitionOf_25 : decode cX8_petitionOf 25 = .ok (.aload_n 0, 1) := by decide +kernel
theorem dX8_petitionOf_26 : decode cX8_petitionOf 26 = .ok (.getfield 7, 3) := by decide +kernel
theorem dX8_petitionOf_29 : decode cX8_petitionOf 29 = .ok (.iload_n 3, 1) := by decide +kernel
theorem dX8_petitionOf_30 : decode cX8_petitionOf 30 = .ok (.iload_n 2, 1) := by decide +kernel
theorem dX8_petitionOf_31 : decode cX8_petitionOf 31 = .ok (.iadd, 1) := by decide +kernel
theorem dX8_petitionOf_32 : decode cX8_petitionOf 32 = .ok (.iaload, 1) := by decide +kernel
theorem dX8_petitionOf_33 : decode cX8_petitionOf 33 = .ok (.goto 35, 3) := by decide +kernel
theorem dX8_petitionOf_36 : decode cX8_petitionOf 36 = .ok (.iload_n 2, 1) := by decide +kernel
theorem dX8_petitionOf_37 : decode cX8_petitionOf 37 = .ok (.iconst 4, 1) := by decide +kernel
theorem dX8_petitionOf_38 : decode cX8_petitionOf 38 = .ok (.if_icmp .ne 12, 3) := by decide +kernel
theorem dX8_petitionOf_41 : decode cX8_petitionOf 41 = .ok (.aload_n 0, 1) := by decide +kernel
theorem dX8_petitionOf_42 : decode cX8_petitionOf 42 = .ok (.iconst 0, 1) := by decide +kernel
theorem dX8_petitionOf_43 : decode cX8_petitionOf 43 = .ok (.iload_n 1, 1) := by decide +kernel
theorem dX8_petitionOf_44 : decode cX8_petitionOf 44 = .ok (.invokevirtual 58, 3) := by decide +kernel
theorem dX8_petitionOf_47 : decode cX8_petitionOf 47 = .ok (.goto 21, 3) := by decide +kernel
theorem dX8_petitionOf_50 : decode cX8_petitionOf 50 = .ok (.iload_n 2, 1) := by decide +kernel
theorem dX8_petitionOf_51 : decode cX8_petitionOf 51 = .ok (.iconst 5, 1) := by decide +kernel
theorem dX8_petitionOf_52 : decode cX8_petitionOf 52 = .ok (.if_icmp .ne 14, 3) := by decide +kernel
theorem dX8_petitionOf_55 : decode cX8_petitionOf 55 = .ok (.aload_n 0, 1) := by decide +kernel
theorem dX8_petitionOf_56 : decode cX8_petitionOf 56 = .ok (.getfield 7, 3) := by decide +kernel
theorem dX8_petitionOf_59 : decode cX8_petitionOf 59 = .ok (.iload_n 3, 1) := by decide +kernel
theorem dX8_petitionOf_60 : decode cX8_petitionOf 60 = .ok (.iconst 4, 1) := by decide +kernel
theorem dX8_petitionOf_61 : decode cX8_petitionOf 61 = .ok (.iadd, 1) := by decide +kernel
theorem dX8_petitionOf_62 : decode cX8_petitionOf 62 = .ok (.iaload, 1) := by decide +kernel
theorem dX8_petitionOf_63 : decode cX8_petitionOf 63 = .ok (.goto 5, 3) := by decide +kernel
theorem dX8_petitionOf_66 : decode cX8_petitionOf 66 = .ok (.bipush (-2), 2) := by decide +kernel
theorem dX8_petitionOf_68 : decode cX8_petitionOf 68 = .ok (.ireturn, 1) := by decide +kernel
theorem dX8_heard_0 : decode cX8_heard 0 = .ok (.iload_n 1, 1) := by decide +kernel
theorem dX8_heard_1 : decode cX8_heard 1 = .ok (.ifCond .ge 6, 3) := by decide +kernel
theorem dX8_heard_4 : decode cX8_heard 4 = .ok (.bipush (-2), 2) := by decide +kernel
theorem dX8_heard_6 : decode cX8_heard 6 = .ok (.ireturn, 1) := by decide +kernel
theorem dX8_heard_7 : decode cX8_heard 7 = .ok (.aload_n 0, 1) := by decide +kernel
theorem dX8_heard_8 : decode cX8_heard 8 = .ok (.iconst 0, 1) := by decide +kernel
theorem dX8_heard_9 : decode cX8_heard 9 = .ok (.invokevirtual 61, 3) := by decide +kernel
theorem dX8_heard_12 : decode cX8_heard 12 = .ok (.iload_n 1, 1) := by decide +kernel
theorem dX8_heard_13 : decode cX8_heard 13 = .ok (.aload_n 0, 1) := by decide +kernel
theorem dX8_heard_14 : decode cX8_heard 14 = .ok (.getfield 7, 3) := by decide +kernel
theorem dX8_heard_17 : decode cX8_heard 17 = .ok (.bipush 6, 2) := by decide +kernel
theorem dX8_heard_19 : decode cX8_heard 19 = .ok (.iaload, 1) := by decide +kernel
theorem dX8_heard_20 : decode cX8_heard 20 = .ok (.if_icmp .ge 12, 3) := by decide +kernel
theorem dX8_heard_23 : decode cX8_heard 23 = .ok (.aload_n 0, 1) := by decide +kernel
theorem dX8_heard_24 : decode cX8_heard 24 = .ok (.getfield 23, 3) := by decide +kernel
theorem dX8_heard_27 : decode cX8_heard 27 = .ok (.iload_n 1, 1) := by decide +kernel
theorem dX8_heard_28 : decode cX8_heard 28 = .ok (.iaload, 1) := by decide +kernel
theorem dX8_heard_29 : decode cX8_heard 29 = .ok (.goto 5, 3) := by decide +kernel
theorem dX8_heard_32 : decode cX8_heard 32 = .ok (.bipush (-5), 2) := by decide +kernel
theorem dX8_heard_34 : decode cX8_heard 34 = .ok (.ireturn, 1) := by decide +kernel
theorem dX8_ruling_0 : decode cX8_ruling 0 = .ok (.iconst 0, 1) := by decide +kernel
theorem dX8_ruling_1 : decode cX8_ruling 1 = .ok (.iload_n 1, 1) := by decide +kernel
theorem dX8_ruling_2 : decode cX8_ruling 2 = .ok (.iload_n 2, 1) := by decide +kernel
theorem dX8_ruling_3 : decode cX8_ruling 3 = .ok (.invokestatic 43, 3) := by decide +kernel
theorem dX8_ruling_6 : decode cX8_ruling 6 = .ok (.istore_n 3, 1) := by decide +kernel
theorem dX8_ruling_7 : decode cX8_ruling 7 = .ok (.iconst 0, 1) := by decide +kernel
theorem dX8_ruling_8 : decode cX8_ruling 8 = .ok (.bipush 6, 2) := by decide +kernel
theorem dX8_ruling_10 : decode cX8_ruling 10 = .ok (.iload_n 2, 1) := by decide +kernel
theorem dX8_ruling_11 : decode cX8_ruling 11 = .ok (.invokestatic 43, 3) := by decide +kernel
theorem dX8_ruling_14 : decode cX8_ruling 14 = .ok (.istore 4, 2) := by decide +kernel
theorem dX8_ruling_16 : decode cX8_ruling 16 = .ok (.aload_n 0, 1) := by decide +kernel
theorem dX8_ruling_17 : decode cX8_ruling 17 = .ok (.getfield 7, 3) := by decide +kernel
theorem dX8_ruling_20 : decode cX8_ruling 20 = .ok (.iload_n 3, 1) := by decide +kernel
theorem dX8_ruling_21 : decode cX8_ruling 21 = .ok (.iaload, 1) := by decide +kernel
theorem dX8_ruling_22 : decode cX8_ruling 22 = .ok (.bipush (-5), 2) := by decide +kernel
theorem dX8_ruling_24 : decode cX8_ruling 24 = .ok (.if_icmp .eq 15, 3) := by decide +kernel
theorem dX8_ruling_27 : decode cX8_ruling 27 = .ok (.aload_n 0, 1) := by decide +kernel
theorem dX8_ruling_28 : decode cX8_ruling 28 = .ok (.getfield 7, 3) := by decide +kernel
theorem dX8_ruling_31 : decode cX8_ruling 31 = .ok (.iload 4, 2) := by decide +kernel
theorem dX8_ruling_33 : decode cX8_ruling 33 = .ok (.iaload, 1) := by decide +kernel
theorem dX8_ruling_34 : decode cX8_ruling 34 = .ok (.bipush (-5), 2) := by decide +kernel
theorem dX8_ruling_36 : decode cX8_ruling 36 = .ok (.if_icmp .ne 38, 3) := by decide +kernel
theorem dX8_ruling_39 : decode cX8_ruling 39 = .ok (.aload_n 0, 1) := by decide +kernel
theorem dX8_ruling_40 : decode cX8_ruling 40 = .ok (.getfield 7, 3) := by decide +kernel
theorem dX8_ruling_43 : decode cX8_ruling 43 = .ok (.iload_n 3, 1) := by decide +kernel
theorem dX8_ruling_44 : decode cX8_ruling 44 = .ok (.iaload, 1) := by decide +kernel
theorem dX8_ruling_45 : decode cX8_ruling 45 = .ok (.bipush (-5), 2) := by decide +kernel
theorem dX8_ruling_47 : decode cX8_ruling 47 = .ok (.if_icmp .eq 7, 3) := by decide +kernel
theorem dX8_ruling_50 : decode cX8_ruling 50 = .ok (.iload_n 1, 1) := by decide +kernel
theorem dX8_ruling_51 : decode cX8_ruling 51 = .ok (.goto 22, 3) := by decide +kernel
theorem dX8_ruling_54 : decode cX8_ruling 54 = .ok (.aload_n 0, 1) := by decide +kernel
theorem dX8_ruling_55 : decode cX8_ruling 55 = .ok (.getfield 7, 3) := by decide +kernel
theorem dX8_ruling_58 : decode cX8_ruling 58 = .ok (.iload 4, 2) := by decide +kernel
theorem dX8_ruling_60 : decode cX8_ruling 60 = .ok (.iaload, 1) := by decide +kernel
theorem dX8_ruling_61 : decode cX8_ruling 61 = .ok (.bipush (-5), 2) := by decide +kernel
theorem dX8_ruling_63 : decode cX8_ruling 63 = .ok (.if_icmp .eq 8, 3) := by decide +kernel
theorem dX8_ruling_66 : decode cX8_ruling 66 = .ok (.bipush 6, 2) := by decide +kernel
theorem dX8_ruling_68 : decode cX8_ruling 68 = .ok (.goto 5, 3) := by decide +kernel
theorem dX8_ruling_71 : decode cX8_ruling 71 = .ok (.bipush (-5), 2) := by decide +kernel
theorem dX8_ruling_73 : decode cX8_ruling 73 = .ok (.ireturn, 1) := by decide +kernel
theorem dX8_ruling_74 : decode cX8_ruling 74 = .ok (.aload_n 0, 1) := by decide +kernel
theorem dX8_ruling_75 : decode cX8_ruling 75 = .ok (.getfield 7, 3) := by decide +kernel
theorem dX8_ruling_78 : decode cX8_ruling 78 = .ok (.iload 4, 2) := by decide +kernel
theorem dX8_ruling_80 : decode cX8_ruling 80 = .ok (.iconst 1, 1) := by decide +kernel
theorem dX8_ruling_81 : decode cX8_ruling 81 = .ok (.iadd, 1) := by decide +kernel
theorem dX8_ruling_82 : decode cX8_ruling 82 = .ok (.iaload, 1) := by decide +kernel
theorem dX8_ruling_83 : decode cX8_ruling 83 = .ok (.aload_n 0, 1) := by decide +kernel
theorem dX8_ruling_84 : decode cX8_ruling 84 = .ok (.getfield 7, 3) := by decide +kernel
theorem dX8_ruling_87 : decode cX8_ruling 87 = .ok (.iload_n 3, 1) := by decide +kernel
theorem dX8_ruling_88 : decode cX8_ruling 88 = .ok (.iconst 1, 1) := by decide +kernel
theorem dX8_ruling_89 : decode cX8_ruling 89 = .ok (.iadd, 1) := by decide +kernel
theorem dX8_ruling_90 : decode cX8_ruling 90 = .ok (.iaload, 1) := by decide +kernel
theorem dX8_ruling_91 : decode cX8_ruling 91 = .ok (.if_icmp .le 8, 3) := by decide +kernel
theorem dX8_ruling_94 : decode cX8_ruling 94 = .ok (.bipush 6, 2) := by decide +kernel
theorem dX8_ruling_96 : decode cX8_ruling 96 = .ok (.goto 4, 3) := by decide +kernel
theorem dX8_ruling_99 : decode cX8_ruling 99 = .ok (.iload_n 1, 1) := by decide +kernel
theorem dX8_ruling_100 : decode cX8_ruling 100 = .ok (.ireturn, 1) := by decide +kernel
theorem dX8_isAllowed_0 : decode cX8_isAllowed 0 = .ok (.aload_n 0, 1) := by decide +kernel
theorem dX8_isAllowed_1 : decode cX8_isAllowed 1 = .ok (.iload_n 1, 1) := by decide +kernel
theorem dX8_isAllowed_2 : decode cX8_isAllowed 2 = .ok (.iload_n 2, 1) := by decide +kernel
theorem dX8_isAllowed_3 : decode cX8_isAllowed 3 = .ok (.invokevirtual 179, 3) := by decide +kernel
theorem dX8_isAllowed_6 : decode cX8_isAllowed 6 = .ok (.istore_n 3, 1) := by decide +kernel
theorem dX8_isAllowed_7 : decode cX8_isAllowed 7 = .ok (.iload_n 3, 1) := by decide +kernel
theorem dX8_isAllowed_8 : decode cX8_isAllowed 8 = .ok (.bipush (-5), 2) := by decide +kernel
theorem dX8_isAllowed_10 : decode cX8_isAllowed 10 = .ok (.if_icmp .eq 18, 3) := by decide +kernel
theorem dX8_isAllowed_13 : decode cX8_isAllowed 13 = .ok (.aload_n 0, 1) := by decide +kernel
theorem dX8_isAllowed_14 : decode cX8_isAllowed 14 = .ok (.getfield 7, 3) := by decide +kernel
theorem dX8_isAllowed_17 : decode cX8_isAllowed 17 = .ok (.iconst 0, 1) := by decide +kernel
theorem dX8_isAllowed_18 : decode cX8_isAllowed 18 = .ok (.iload_n 3, 1) := by decide +kernel
theorem dX8_isAllowed_19 : decode cX8_isAllowed 19 = .ok (.iload_n 2, 1) := by decide +kernel
theorem dX8_isAllowed_20 : decode cX8_isAllowed 20 = .ok (.invokestatic 43, 3) := by decide +kernel
theorem dX8_isAllowed_23 : decode cX8_isAllowed 23 = .ok (.iaload, 1) := by decide +kernel
theorem dX8_isAllowed_24 : decode cX8_isAllowed 24 = .ok (.iconst 1, 1) := by decide +kernel
theorem dX8_isAllowed_25 : decode cX8_isAllowed 25 = .ok (.if_icmp .ne 7, 3) := by decide +kernel
theorem dX8_isAllowed_28 : decode cX8_isAllowed 28 = .ok (.iconst 1, 1) := by decide +kernel
theorem dX8_isAllowed_29 : decode cX8_isAllowed 29 = .ok (.goto 4, 3) := by decide +kernel
theorem dX8_isAllowed_32 : decode cX8_isAllowed 32 = .ok (.iconst 0, 1) := by decide +kernel
theorem dX8_isAllowed_33 : decode cX8_isAllowed 33 = .ok (.ireturn, 1) := by decide +kernel
theorem dX8_rule_0 : decode cX8_rule 0 = .ok (.iload_n 1, 1) := by decide +kernel
theorem dX8_rule_1 : decode cX8_rule 1 = .ok (.invokestatic 80, 3) := by decide +kernel
theorem dX8_rule_4 : decode cX8_rule 4 = .ok (.ifCond .eq 10, 3) := by decide +kernel
theorem dX8_rule_7 : decode cX8_rule 7 = .ok (.iload_n 2, 1) := by decide +kernel
theorem dX8_rule_8 : decode cX8_rule 8 = .ok (.invokestatic 87, 3) := by decide +kernel
theorem dX8_rule_11 : decode cX8_rule 11 = .ok (.ifCond .ne 5, 3) := by decide +kernel
theorem dX8_rule_14 : decode cX8_rule 14 = .ok (.iconst (-1), 1) := by decide +kernel
theorem dX8_rule_15 : decode cX8_rule 15 = .ok (.ireturn, 1) := by decide +kernel
theorem dX8_rule_16 : decode cX8_rule 16 = .ok (.aload_n 0, 1) := by decide +kernel
theorem dX8_rule_17 : decode cX8_rule 17 = .ok (.iload_n 1, 1) := by decide +kernel
theorem dX8_rule_18 : decode cX8_rule 18 = .ok (.iload_n 2, 1) := by decide +kernel
theorem dX8_rule_19 : decode cX8_rule 19 = .ok (.invokevirtual 179, 3) := by decide +kernel
theorem dX8_rule_22 : decode cX8_rule 22 = .ok (.istore 4, 2) := by decide +kernel
theorem dX8_rule_24 : decode cX8_rule 24 = .ok (.iload_n 3, 1) := by decide +kernel
theorem dX8_rule_25 : decode cX8_rule 25 = .ok (.tableswitch 67 0 2 #[27, 37, 40], 27) := by decide +kernel
theorem dX8_rule_52 : decode cX8_rule 52 = .ok (.aload_n 0, 1) := by decide +kernel
theorem dX8_rule_53 : decode cX8_rule 53 = .ok (.iload_n 1, 1) := by decide +kernel
theorem dX8_rule_54 : decode cX8_rule 54 = .ok (.iload_n 2, 1) := by decide +kernel
theorem dX8_rule_55 : decode cX8_rule 55 = .ok (.invokevirtual 182, 3) := by decide +kernel
theorem dX8_rule_58 : decode cX8_rule 58 = .ok (.invokestatic 54, 3) := by decide +kernel
theorem dX8_rule_61 : decode cX8_rule 61 = .ok (.ireturn, 1) := by decide +kernel
theorem dX8_rule_62 : decode cX8_rule 62 = .ok (.iload 4, 2) := by decide +kernel
theorem dX8_rule_64 : decode cX8_rule 64 = .ok (.ireturn, 1) := by decide +kernel
theorem dX8_rule_65 : decode cX8_rule 65 = .ok (.iload 4, 2) := by decide +kernel
theorem dX8_rule_67 : decode cX8_rule 67 = .ok (.bipush (-5), 2) := by decide +kernel
theorem dX8_rule_69 : decode cX8_rule 69 = .ok (.if_icmp .ne 8, 3) := by decide +kernel
theorem dX8_rule_72 : decode cX8_rule 72 = .ok (.bipush (-5), 2) := by decide +kernel
theorem dX8_rule_74 : decode cX8_rule 74 = .ok (.goto 17, 3) := by decide +kernel
theorem dX8_rule_77 : decode cX8_rule 77 = .ok (.aload_n 0, 1) := by decide +kernel
theorem dX8_rule_78 : decode cX8_rule 78 = .ok (.getfield 7, 3) := by decide +kernel
theorem dX8_rule_81 : decode cX8_rule 81 = .ok (.iconst 0, 1) := by decide +kernel
theorem dX8_rule_82 : decode cX8_rule 82 = .ok (.iload 4, 2) := by decide +kernel
theorem dX8_rule_84 : decode cX8_rule 84 = .ok (.iload_n 2, 1) := by decide +kernel
theorem dX8_rule_85 : decode cX8_rule 85 = .ok (.invokestatic 43, 3) := by decide +kernel
theorem dX8_rule_88 : decode cX8_rule 88 = .ok (.iconst 1, 1) := by decide +kernel
theorem dX8_rule_89 : decode cX8_rule 89 = .ok (.iadd, 1) := by decide +kernel
theorem dX8_rule_90 : decode cX8_rule 90 = .ok (.iaload, 1) := by decide +kernel
theorem dX8_rule_91 : decode cX8_rule 91 = .ok (.ireturn, 1) := by decide +kernel
theorem dX8_rule_92 : decode cX8_rule 92 = .ok (.bipush (-2), 2) := by decide +kernel
theorem dX8_rule_94 : decode cX8_rule 94 = .ok (.ireturn, 1) := by decide +kernel
theorem dX8_tries_0 : decode cX8_tries 0 = .ok (.aload_n 0, 1) := by decide +kernel
theorem dX8_tries_1 : decode cX8_tries 1 = .ok (.iconst 0, 1) := by decide +kernel
theorem dX8_tries_2 : decode cX8_tries 2 = .ok (.bipush 7, 2) := by decide +kernel
theorem dX8_tries_4 : decode cX8_tries 4 = .ok (.invokevirtual 32, 3) := by decide +kernel
theorem dX8_tries_7 : decode cX8_tries 7 = .ok (.aload_n 0, 1) := by decide +kernel
theorem dX8_tries_8 : decode cX8_tries 8 = .ok (.sipush 4284, 3) := by decide +kernel
theorem dX8_tries_11 : decode cX8_tries 11 = .ok (.invokevirtual 72, 3) := by decide +kernel
theorem dX8_tries_14 : decode cX8_tries 14 = .ok (.istore_n 1, 1) := by decide +kernel
theorem dX8_tries_15 : decode cX8_tries 15 = .ok (.return_, 1) := by decide +kernel
theorem dX8_reason_0 : decode cX8_reason 0 = .ok (.aload_n 0, 1) := by decide +kernel
theorem dX8_reason_1 : decode cX8_reason 1 = .ok (.iload_n 1, 1) := by decide +kernel
theorem dX8_reason_2 : decode cX8_reason 2 = .ok (.invokevirtual 90, 3) := by decide +kernel
theorem dX8_reason_5 : decode cX8_reason 5 = .ok (.ifCond .ne 5, 3) := by decide +kernel
theorem dX8_reason_8 : decode cX8_reason 8 = .ok (.iconst (-1), 1) := by decide +kernel
theorem dX8_reason_9 : decode cX8_reason 9 = .ok (.ireturn, 1) := by decide +kernel
theorem dX8_reason_10 : decode cX8_reason 10 = .ok (.aload_n 0, 1) := by decide +kernel
theorem dX8_reason_11 : decode cX8_reason 11 = .ok (.invokevirtual 185, 3) := by decide +kernel
theorem dX8_reason_14 : decode cX8_reason 14 = .ok (.aload_n 0, 1) := by decide +kernel
theorem dX8_reason_15 : decode cX8_reason 15 = .ok (.getfield 26, 3) := by decide +kernel
theorem dX8_reason_18 : decode cX8_reason 18 = .ok (.iload_n 1, 1) := by decide +kernel
theorem dX8_reason_19 : decode cX8_reason 19 = .ok (.iaload, 1) := by decide +kernel
theorem dX8_reason_20 : decode cX8_reason 20 = .ok (.ireturn, 1) := by decide +kernel
theorem dX8_wouldPass_0 : decode cX8_wouldPass 0 = .ok (.aload_n 0, 1) := by decide +kernel
theorem dX8_wouldPass_1 : decode cX8_wouldPass 1 = .ok (.invokevirtual 185, 3) := by decide +kernel
theorem dX8_wouldPass_4 : decode cX8_wouldPass 4 = .ok (.iconst 0, 1) := by decide +kernel
theorem dX8_wouldPass_5 : decode cX8_wouldPass 5 = .ok (.istore_n 1, 1) := by decide +kernel
theorem dX8_wouldPass_6 : decode cX8_wouldPass 6 = .ok (.iconst 0, 1) := by decide +kernel
theorem dX8_wouldPass_7 : decode cX8_wouldPass 7 = .ok (.istore_n 2, 1) := by decide +kernel
theorem dX8_wouldPass_8 : decode cX8_wouldPass 8 = .ok (.iload_n 2, 1) := by decide +kernel
theorem dX8_wouldPass_9 : decode cX8_wouldPass 9 = .ok (.aload_n 0, 1) := by decide +kernel
theorem dX8_wouldPass_10 : decode cX8_wouldPass 10 = .ok (.getfield 7, 3) := by decide +kernel
theorem dX8_wouldPass_13 : decode cX8_wouldPass 13 = .ok (.bipush 6, 2) := by decide +kernel
theorem dX8_wouldPass_15 : decode cX8_wouldPass 15 = .ok (.iaload, 1) := by decide +kernel
theorem dX8_wouldPass_16 : decode cX8_wouldPass 16 = .ok (.if_icmp .ge 31, 3) := by decide +kernel
theorem dX8_wouldPass_19 : decode cX8_wouldPass 19 = .ok (.iload_n 1, 1) := by decide +kernel
theorem dX8_wouldPass_20 : decode cX8_wouldPass 20 = .ok (.aload_n 0, 1) := by decide +kernel
theorem dX8_wouldPass_21 : decode cX8_wouldPass 21 = .ok (.getfield 26, 3) := by decide +kernel
theorem dX8_wouldPass_24 : decode cX8_wouldPass 24 = .ok (.iload_n 2, 1) := by decide +kernel
theorem dX8_wouldPass_25 : decode cX8_wouldPass 25 = .ok (.iaload, 1) := by decide +kernel
theorem dX8_wouldPass_26 : decode cX8_wouldPass 26 = .ok (.ifCond .ne 7, 3) := by decide +kernel
theorem dX8_wouldPass_29 : decode cX8_wouldPass 29 = .ok (.iconst 1, 1) := by decide +kernel
theorem dX8_wouldPass_30 : decode cX8_wouldPass 30 = .ok (.goto 4, 3) := by decide +kernel
theorem dX8_wouldPass_33 : decode cX8_wouldPass 33 = .ok (.iconst 0, 1) := by decide +kernel
theorem dX8_wouldPass_34 : decode cX8_wouldPass 34 = .ok (.invokestatic 54, 3) := by decide +kernel
theorem dX8_wouldPass_37 : decode cX8_wouldPass 37 = .ok (.iload_n 2, 1) := by decide +kernel
theorem dX8_wouldPass_38 : decode cX8_wouldPass 38 = .ok (.ishl, 1) := by decide +kernel
theorem dX8_wouldPass_39 : decode cX8_wouldPass 39 = .ok (.ior, 1) := by decide +kernel
theorem dX8_wouldPass_40 : decode cX8_wouldPass 40 = .ok (.istore_n 1, 1) := by decide +kernel
theorem dX8_wouldPass_41 : decode cX8_wouldPass 41 = .ok (.iinc 2 1, 3) := by decide +kernel
theorem dX8_wouldPass_44 : decode cX8_wouldPass 44 = .ok (.goto (-36), 3) := by decide +kernel
theorem dX8_wouldPass_47 : decode cX8_wouldPass 47 = .ok (.iload_n 1, 1) := by decide +kernel
theorem dX8_wouldPass_48 : decode cX8_wouldPass 48 = .ok (.ireturn, 1) := by decide +kernel
theorem dX8_lacks_0 : decode cX8_lacks 0 = .ok (.aload_n 0, 1) := by decide +kernel
theorem dX8_lacks_1 : decode cX8_lacks 1 = .ok (.iload_n 1, 1) := by decide +kernel
theorem dX8_lacks_2 : decode cX8_lacks 2 = .ok (.invokevirtual 90, 3) := by decide +kernel
theorem dX8_lacks_5 : decode cX8_lacks 5 = .ok (.ifCond .ne 5, 3) := by decide +kernel
theorem dX8_lacks_8 : decode cX8_lacks 8 = .ok (.iconst (-1), 1) := by decide +kernel
theorem dX8_lacks_9 : decode cX8_lacks 9 = .ok (.ireturn, 1) := by decide +kernel
theorem dX8_lacks_10 : decode cX8_lacks 10 = .ok (.aload_n 0, 1) := by decide +kernel
theorem dX8_lacks_11 : decode cX8_lacks 11 = .ok (.iconst 0, 1) := by decide +kernel
theorem dX8_lacks_12 : decode cX8_lacks 12 = .ok (.iload_n 1, 1) := by decide +kernel
theorem dX8_lacks_13 : decode cX8_lacks 13 = .ok (.invokevirtual 58, 3) := by decide +kernel
theorem dX8_lacks_16 : decode cX8_lacks 16 = .ok (.istore_n 2, 1) := by decide +kernel
theorem dX8_lacks_17 : decode cX8_lacks 17 = .ok (.iconst 0, 1) := by decide +kernel
theorem dX8_lacks_18 : decode cX8_lacks 18 = .ok (.istore_n 3, 1) := by decide +kernel
theorem dX8_lacks_19 : decode cX8_lacks 19 = .ok (.iload_n 3, 1) := by decide +kernel
theorem dX8_lacks_20 : decode cX8_lacks 20 = .ok (.bipush 120, 2) := by decide +kernel
theorem dX8_lacks_22 : decode cX8_lacks 22 = .ok (.if_icmp .gt 23, 3) := by decide +kernel
theorem dX8_lacks_25 : decode cX8_lacks 25 = .ok (.aload_n 0, 1) := by decide +kernel
theorem dX8_lacks_26 : decode cX8_lacks 26 = .ok (.iconst 0, 1) := by decide +kernel
theorem dX8_lacks_27 : decode cX8_lacks 27 = .ok (.iload_n 1, 1) := by decide +kernel
theorem dX8_lacks_28 : decode cX8_lacks 28 = .ok (.iload_n 2, 1) := by decide +kernel
theorem dX8_lacks_29 : decode cX8_lacks 29 = .ok (.iload_n 3, 1) := by decide +kernel
theorem dX8_lacks_30 : decode cX8_lacks 30 = .ok (.iadd, 1) := by decide +kernel
theorem dX8_lacks_31 : decode cX8_lacks 31 = .ok (.invokevirtual 65, 3) := by decide +kernel
theorem dX8_lacks_34 : decode cX8_lacks 34 = .ok (.ifCond .ne 5, 3) := by decide +kernel
theorem dX8_lacks_37 : decode cX8_lacks 37 = .ok (.iload_n 3, 1) := by decide +kernel
theorem dX8_lacks_38 : decode cX8_lacks 38 = .ok (.ireturn, 1) := by decide +kernel
theorem dX8_lacks_39 : decode cX8_lacks 39 = .ok (.iinc 3 1, 3) := by decide +kernel
theorem dX8_lacks_42 : decode cX8_lacks 42 = .ok (.goto (-23), 3) := by decide +kernel
theorem dX8_lacks_45 : decode cX8_lacks 45 = .ok (.bipush (-5), 2) := by decide +kernel
theorem dX8_lacks_47 : decode cX8_lacks 47 = .ok (.ireturn, 1) := by decide +kernel
theorem dX8_free_0 : decode cX8_free 0 = .ok (.iconst 0, 1) := by decide +kernel
theorem dX8_free_1 : decode cX8_free 1 = .ok (.istore_n 1, 1) := by decide +kernel
theorem dX8_free_2 : decode cX8_free 2 = .ok (.iconst 0, 1) := by decide +kernel
theorem dX8_free_3 : decode cX8_free 3 = .ok (.istore_n 2, 1) := by decide +kernel
theorem dX8_free_4 : decode cX8_free 4 = .ok (.iload_n 2, 1) := by decide +kernel
theorem dX8_free_5 : decode cX8_free 5 = .ok (.aload_n 0, 1) := by decide +kernel
theorem dX8_free_6 : decode cX8_free 6 = .ok (.getfield 7, 3) := by decide +kernel
theorem dX8_free_9 : decode cX8_free 9 = .ok (.iconst 5, 1) := by decide +kernel
theorem dX8_free_10 : decode cX8_free 10 = .ok (.iaload, 1) := by decide +kernel
theorem dX8_free_11 : decode cX8_free 11 = .ok (.if_icmp .ge 39, 3) := by decide +kernel
theorem dX8_free_14 : decode cX8_free 14 = .ok (.iload_n 1, 1) := by decide +kernel
theorem dX8_free_15 : decode cX8_free 15 = .ok (.aload_n 0, 1) := by decide +kernel
theorem dX8_free_16 : decode cX8_free 16 = .ok (.getfield 7, 3) := by decide +kernel
theorem dX8_free_19 : decode cX8_free 19 = .ok (.iconst 0, 1) := by decide +kernel
theorem dX8_free_20 : decode cX8_free 20 = .ok (.iload_n 2, 1) := by decide +kernel
theorem dX8_free_21 : decode cX8_free 21 = .ok (.invokestatic 40, 3) := by decide +kernel
theorem dX8_free_24 : decode cX8_free 24 = .ok (.iconst 2, 1) := by decide +kernel
theorem dX8_free_25 : decode cX8_free 25 = .ok (.iadd, 1) := by decide +kernel
theorem dX8_free_26 : decode cX8_free 26 = .ok (.iaload, 1) := by decide +kernel
theorem dX8_free_27 : decode cX8_free 27 = .ok (.bipush (-5), 2) := by decide +kernel
theorem dX8_free_29 : decode cX8_free 29 = .ok (.if_icmp .ne 7, 3) := by decide +kernel
theorem dX8_free_32 : decode cX8_free 32 = .ok (.iconst 1, 1) := by decide +kernel
theorem dX8_free_33 : decode cX8_free 33 = .ok (.goto 4, 3) := by decide +kernel
theorem dX8_free_36 : decode cX8_free 36 = .ok (.iconst 0, 1) := by decide +kernel
theorem dX8_free_37 : decode cX8_free 37 = .ok (.invokestatic 54, 3) := by decide +kernel
theorem dX8_free_40 : decode cX8_free 40 = .ok (.iload_n 2, 1) := by decide +kernel
theorem dX8_free_41 : decode cX8_free 41 = .ok (.ishl, 1) := by decide +kernel
theorem dX8_free_42 : decode cX8_free 42 = .ok (.ior, 1) := by decide +kernel
theorem dX8_free_43 : decode cX8_free 43 = .ok (.istore_n 1, 1) := by decide +kernel
theorem dX8_free_44 : decode cX8_free 44 = .ok (.iinc 2 1, 3) := by decide +kernel
theorem dX8_free_47 : decode cX8_free 47 = .ok (.goto (-43), 3) := by decide +kernel
theorem dX8_free_50 : decode cX8_free 50 = .ok (.iload_n 1, 1) := by decide +kernel
theorem dX8_free_51 : decode cX8_free 51 = .ok (.ireturn, 1) := by decide +kernel
theorem dX8_oldestAt_0 : decode cX8_oldestAt 0 = .ok (.bipush (-5), 2) := by decide +kernel
theorem dX8_oldestAt_2 : decode cX8_oldestAt 2 = .ok (.istore_n 2, 1) := by decide +kernel
theorem dX8_oldestAt_3 : decode cX8_oldestAt 3 = .ok (.iconst 0, 1) := by decide +kernel
theorem dX8_oldestAt_4 : decode cX8_oldestAt 4 = .ok (.istore_n 3, 1) := by decide +kernel
theorem dX8_oldestAt_5 : decode cX8_oldestAt 5 = .ok (.iload_n 3, 1) := by decide +kernel
theorem dX8_oldestAt_6 : decode cX8_oldestAt 6 = .ok (.sipush 140, 3) := by decide +kernel
theorem dX8_oldestAt_9 : decode cX8_oldestAt 9 = .ok (.if_icmp .ge 80, 3) := by decide +kernel
theorem dX8_oldestAt_12 : decode cX8_oldestAt 12 = .ok (.aload_n 0, 1) := by decide +kernel
theorem dX8_oldestAt_13 : decode cX8_oldestAt 13 = .ok (.iload_n 1, 1) := by decide +kernel
theorem dX8_oldestAt_14 : decode cX8_oldestAt 14 = .ok (.iload_n 3, 1) := by decide +kernel
theorem dX8_oldestAt_15 : decode cX8_oldestAt 15 = .ok (.bipush 20, 2) := by decide +kernel
theorem dX8_oldestAt_17 : decode cX8_oldestAt 17 = .ok (.irem, 1) := by decide +kernel
theorem dX8_oldestAt_18 : decode cX8_oldestAt 18 = .ok (.invokevirtual 179, 3) := by decide +kernel
theorem dX8_oldestAt_21 : decode cX8_oldestAt 21 = .ok (.iload_n 3, 1) := by decide +kernel
theorem dX8_oldestAt_22 : decode cX8_oldestAt 22 = .ok (.bipush 20, 2) := by decide +kernel
theorem dX8_oldestAt_24 : decode cX8_oldestAt 24 = .ok (.idiv, 1) := by decide +kernel
theorem dX8_oldestAt_25 : decode cX8_oldestAt 25 = .ok (.if_icmp .ne 7, 3) := by decide +kernel
theorem dX8_oldestAt_28 : decode cX8_oldestAt 28 = .ok (.iconst 1, 1) := by decide +kernel
theorem dX8_oldestAt_29 : decode cX8_oldestAt 29 = .ok (.goto 4, 3) := by decide +kernel
theorem dX8_oldestAt_32 : decode cX8_oldestAt 32 = .ok (.iconst 0, 1) := by decide +kernel
theorem dX8_oldestAt_33 : decode cX8_oldestAt 33 = .ok (.istore 4, 2) := by decide +kernel
theorem dX8_oldestAt_35 : decode cX8_oldestAt 35 = .ok (.iload 4, 2) := by decide +kernel
theorem dX8_oldestAt_37 : decode cX8_oldestAt 37 = .ok (.ifCond .eq 44, 3) := by decide +kernel
theorem dX8_oldestAt_40 : decode cX8_oldestAt 40 = .ok (.iload_n 2, 1) := by decide +kernel
theorem dX8_oldestAt_41 : decode cX8_oldestAt 41 = .ok (.bipush (-5), 2) := by decide +kernel
theorem dX8_oldestAt_43 : decode cX8_oldestAt 43 = .ok (.if_icmp .eq 34, 3) := by decide +kernel
theorem dX8_oldestAt_46 : decode cX8_oldestAt 46 = .ok (.aload_n 0, 1) := by decide +kernel
theorem dX8_oldestAt_47 : decode cX8_oldestAt 47 = .ok (.getfield 7, 3) := by decide +kernel
theorem dX8_oldestAt_50 : decode cX8_oldestAt 50 = .ok (.sipush 192, 3) := by decide +kernel
theorem dX8_oldestAt_53 : decode cX8_oldestAt 53 = .ok (.iconst 3, 1) := by decide +kernel
theorem dX8_oldestAt_54 : decode cX8_oldestAt 54 = .ok (.iload_n 3, 1) := by decide +kernel
theorem dX8_oldestAt_55 : decode cX8_oldestAt 55 = .ok (.imul, 1) := by decide +kernel
theorem dX8_oldestAt_56 : decode cX8_oldestAt 56 = .ok (.iadd, 1) := by decide +kernel
theorem dX8_oldestAt_57 : decode cX8_oldestAt 57 = .ok (.iconst 2, 1) := by decide +kernel
theorem dX8_oldestAt_58 : decode cX8_oldestAt 58 = .ok (.iadd, 1) := by decide +kernel
theorem dX8_oldestAt_59 : decode cX8_oldestAt 59 = .ok (.iaload, 1) := by decide +kernel
theorem dX8_oldestAt_60 : decode cX8_oldestAt 60 = .ok (.aload_n 0, 1) := by decide +kernel
theorem dX8_oldestAt_61 : decode cX8_oldestAt 61 = .ok (.getfield 7, 3) := by decide +kernel
theorem dX8_oldestAt_64 : decode cX8_oldestAt 64 = .ok (.sipush 192, 3) := by decide +kernel
theorem dX8_oldestAt_67 : decode cX8_oldestAt 67 = .ok (.iconst 3, 1) := by decide +kernel
theorem dX8_oldestAt_68 : decode cX8_oldestAt 68 = .ok (.iload_n 2, 1) := by decide +kernel
theorem dX8_oldestAt_69 : decode cX8_oldestAt 69 = .ok (.imul, 1) := by decide +kernel
theorem dX8_oldestAt_70 : decode cX8_oldestAt 70 = .ok (.iadd, 1) := by decide +kernel
theorem dX8_oldestAt_71 : decode cX8_oldestAt 71 = .ok (.iconst 2, 1) := by decide +kernel
theorem dX8_oldestAt_72 : decode cX8_oldestAt 72 = .ok (.iadd, 1) := by decide +kernel
theorem dX8_oldestAt_73 : decode cX8_oldestAt 73 = .ok (.iaload, 1) := by decide +kernel
theorem dX8_oldestAt_74 : decode cX8_oldestAt 74 = .ok (.if_icmp .ge 7, 3) := by decide +kernel
theorem dX8_oldestAt_77 : decode cX8_oldestAt 77 = .ok (.iload_n 3, 1) := by decide +kernel
theorem dX8_oldestAt_78 : decode cX8_oldestAt 78 = .ok (.goto 4, 3) := by decide +kernel
theorem dX8_oldestAt_81 : decode cX8_oldestAt 81 = .ok (.iload_n 2, 1) := by decide +kernel
theorem dX8_oldestAt_82 : decode cX8_oldestAt 82 = .ok (.istore_n 2, 1) := by decide +kernel
theorem dX8_oldestAt_83 : decode cX8_oldestAt 83 = .ok (.iinc 3 1, 3) := by decide +kernel
theorem dX8_oldestAt_86 : decode cX8_oldestAt 86 = .ok (.goto (-81), 3) := by decide +kernel
theorem dX8_oldestAt_89 : decode cX8_oldestAt 89 = .ok (.iload_n 2, 1) := by decide +kernel
theorem dX8_oldestAt_90 : decode cX8_oldestAt 90 = .ok (.ireturn, 1) := by decide +kernel
theorem dX8_oldest_0 : decode cX8_oldest 0 = .ok (.aload_n 0, 1) := by decide +kernel
theorem dX8_oldest_1 : decode cX8_oldest 1 = .ok (.iload_n 1, 1) := by decide +kernel
theorem dX8_oldest_2 : decode cX8_oldest 2 = .ok (.invokevirtual 84, 3) := by decide +kernel
theorem dX8_oldest_5 : decode cX8_oldest 5 = .ok (.ifCond .ne 5, 3) := by decide +kernel
theorem dX8_oldest_8 : decode cX8_oldest 8 = .ok (.iconst (-1), 1) := by decide +kernel
theorem dX8_oldest_9 : decode cX8_oldest 9 = .ok (.ireturn, 1) := by decide +kernel
theorem dX8_oldest_10 : decode cX8_oldest 10 = .ok (.iload_n 2, 1) := by decide +kernel
theorem dX8_oldest_11 : decode cX8_oldest 11 = .ok (.iconst 0, 1) := by decide +kernel
theorem dX8_oldest_12 : decode cX8_oldest 12 = .ok (.iconst 1, 1) := by decide +kernel
theorem dX8_oldest_13 : decode cX8_oldest 13 = .ok (.invokestatic 76, 3) := by decide +kernel
theorem dX8_oldest_16 : decode cX8_oldest 16 = .ok (.ifCond .ne 6, 3) := by decide +kernel
theorem dX8_oldest_19 : decode cX8_oldest 19 = .ok (.bipush (-2), 2) := by decide +kernel
theorem dX8_oldest_21 : decode cX8_oldest 21 = .ok (.ireturn, 1) := by decide +kernel
theorem dX8_oldest_22 : decode cX8_oldest 22 = .ok (.aload_n 0, 1) := by decide +kernel
theorem dX8_oldest_23 : decode cX8_oldest 23 = .ok (.aload_n 0, 1) := by decide +kernel
theorem dX8_oldest_24 : decode cX8_oldest 24 = .ok (.getfield 7, 3) := by decide +kernel
theorem dX8_oldest_27 : decode cX8_oldest 27 = .ok (.iconst 0, 1) := by decide +kernel
theorem dX8_oldest_28 : decode cX8_oldest 28 = .ok (.iload_n 1, 1) := by decide +kernel
theorem dX8_oldest_29 : decode cX8_oldest 29 = .ok (.invokestatic 40, 3) := by decide +kernel
theorem dX8_oldest_32 : decode cX8_oldest 32 = .ok (.iaload, 1) := by decide +kernel
theorem dX8_oldest_33 : decode cX8_oldest 33 = .ok (.invokevirtual 188, 3) := by decide +kernel
theorem dX8_oldest_36 : decode cX8_oldest 36 = .ok (.istore_n 3, 1) := by decide +kernel
theorem dX8_oldest_37 : decode cX8_oldest 37 = .ok (.iload_n 3, 1) := by decide +kernel
theorem dX8_oldest_38 : decode cX8_oldest 38 = .ok (.bipush (-5), 2) := by decide +kernel
theorem dX8_oldest_40 : decode cX8_oldest 40 = .ok (.if_icmp .ne 8, 3) := by decide +kernel
theorem dX8_oldest_43 : decode cX8_oldest 43 = .ok (.bipush (-5), 2) := by decide +kernel
theorem dX8_oldest_45 : decode cX8_oldest 45 = .ok (.goto 29, 3) := by decide +kernel
theorem dX8_oldest_48 : decode cX8_oldest 48 = .ok (.iload_n 2, 1) := by decide +kernel
theorem dX8_oldest_49 : decode cX8_oldest 49 = .ok (.ifCond .ne 11, 3) := by decide +kernel
theorem dX8_oldest_52 : decode cX8_oldest 52 = .ok (.aload_n 0, 1) := by decide +kernel
theorem dX8_oldest_53 : decode cX8_oldest 53 = .ok (.iload_n 3, 1) := by decide +kernel
theorem dX8_oldest_54 : decode cX8_oldest 54 = .ok (.invokevirtual 191, 3) := by decide +kernel
theorem dX8_oldest_57 : decode cX8_oldest 57 = .ok (.goto 17, 3) := by decide +kernel
theorem dX8_oldest_60 : decode cX8_oldest 60 = .ok (.aload_n 0, 1) := by decide +kernel
theorem dX8_oldest_61 : decode cX8_oldest 61 = .ok (.getfield 7, 3) := by decide +kernel
theorem dX8_oldest_64 : decode cX8_oldest 64 = .ok (.sipush 192, 3) := by decide +kernel
theorem dX8_oldest_67 : decode cX8_oldest 67 = .ok (.iconst 3, 1) := by decide +kernel
theorem dX8_oldest_68 : decode cX8_oldest 68 = .ok (.iload_n 3, 1) := by decide +kernel
theorem dX8_oldest_69 : decode cX8_oldest 69 = .ok (.imul, 1) := by decide +kernel
theorem dX8_oldest_70 : decode cX8_oldest 70 = .ok (.iadd, 1) := by decide +kernel
theorem dX8_oldest_71 : decode cX8_oldest 71 = .ok (.iconst 2, 1) := by decide +kernel
theorem dX8_oldest_72 : decode cX8_oldest 72 = .ok (.iadd, 1) := by decide +kernel
theorem dX8_oldest_73 : decode cX8_oldest 73 = .ok (.iaload, 1) := by decide +kernel
theorem dX8_oldest_74 : decode cX8_oldest 74 = .ok (.ireturn, 1) := by decide +kernel
theorem dX8_forbiddenAtCombs_0 : decode cX8_forbiddenAtCombs 0 = .ok (.iconst 0, 1) := by decide +kernel
theorem dX8_forbiddenAtCombs_1 : decode cX8_forbiddenAtCombs 1 = .ok (.istore_n 1, 1) := by decide +kernel
theorem dX8_forbiddenAtCombs_2 : decode cX8_forbiddenAtCombs 2 = .ok (.iconst 0, 1) := by decide +kernel
theorem dX8_forbiddenAtCombs_3 : decode cX8_forbiddenAtCombs 3 = .ok (.istore_n 2, 1) := by decide +kernel
theorem dX8_forbiddenAtCombs_4 : decode cX8_forbiddenAtCombs 4 = .ok (.iload_n 2, 1) := by decide +kernel
theorem dX8_forbiddenAtCombs_5 : decode cX8_forbiddenAtCombs 5 = .ok (.bipush 120, 2) := by decide +kernel
theorem dX8_forbiddenAtCombs_7 : decode cX8_forbiddenAtCombs 7 = .ok (.if_icmp .ge 35, 3) := by decide +kernel
theorem dX8_forbiddenAtCombs_10 : decode cX8_forbiddenAtCombs 10 = .ok (.iload_n 1, 1) := by decide +kernel
theorem dX8_forbiddenAtCombs_11 : decode cX8_forbiddenAtCombs 11 = .ok (.aload_n 0, 1) := by decide +kernel
theorem dX8_forbiddenAtCombs_12 : decode cX8_forbiddenAtCombs 12 = .ok (.iload_n 2, 1) := by decide +kernel
theorem dX8_forbiddenAtCombs_13 : decode cX8_forbiddenAtCombs 13 = .ok (.bipush 20, 2) := by decide +kernel
theorem dX8_forbiddenAtCombs_15 : decode cX8_forbiddenAtCombs 15 = .ok (.idiv, 1) := by decide +kernel
theorem dX8_forbiddenAtCombs_16 : decode cX8_forbiddenAtCombs 16 = .ok (.iload_n 2, 1) := by decide +kernel
theorem dX8_forbiddenAtCombs_17 : decode cX8_forbiddenAtCombs 17 = .ok (.bipush 20, 2) := by decide +kernel
theorem dX8_forbiddenAtCombs_19 : decode cX8_forbiddenAtCombs 19 = .ok (.irem, 1) := by decide +kernel
theorem dX8_forbiddenAtCombs_20 : decode cX8_forbiddenAtCombs 20 = .ok (.invokevirtual 182, 3) := by decide +kernel
theorem dX8_forbiddenAtCombs_23 : decode cX8_forbiddenAtCombs 23 = .ok (.ifCond .ne 7, 3) := by decide +kernel
theorem dX8_forbiddenAtCombs_26 : decode cX8_forbiddenAtCombs 26 = .ok (.iconst 1, 1) := by decide +kernel
theorem dX8_forbiddenAtCombs_27 : decode cX8_forbiddenAtCombs 27 = .ok (.goto 4, 3) := by decide +kernel
theorem dX8_forbiddenAtCombs_30 : decode cX8_forbiddenAtCombs 30 = .ok (.iconst 0, 1) := by decide +kernel
theorem dX8_forbiddenAtCombs_31 : decode cX8_forbiddenAtCombs 31 = .ok (.invokestatic 54, 3) := by decide +kernel
theorem dX8_forbiddenAtCombs_34 : decode cX8_forbiddenAtCombs 34 = .ok (.iadd, 1) := by decide +kernel
theorem dX8_forbiddenAtCombs_35 : decode cX8_forbiddenAtCombs 35 = .ok (.istore_n 1, 1) := by decide +kernel
theorem dX8_forbiddenAtCombs_36 : decode cX8_forbiddenAtCombs 36 = .ok (.iinc 2 1, 3) := by decide +kernel
theorem dX8_forbiddenAtCombs_39 : decode cX8_forbiddenAtCombs 39 = .ok (.goto (-35), 3) := by decide +kernel
theorem dX8_forbiddenAtCombs_42 : decode cX8_forbiddenAtCombs 42 = .ok (.iload_n 1, 1) := by decide +kernel
theorem dX8_forbiddenAtCombs_43 : decode cX8_forbiddenAtCombs 43 = .ok (.ireturn, 1) := by decide +kernel
theorem dX8_count_0 : decode cX8_count 0 = .ok (.iload_n 1, 1) := by decide +kernel
theorem dX8_count_1 : decode cX8_count 1 = .ok (.tableswitch 141 0 15 #[79, 79, 79, 79, 88, 88, 103, 103, 103, 103, 103, 116, 121, 121, 131, 136], 79) := by decide +kernel
theorem dX8_count_80 : decode cX8_count 80 = .ok (.aload_n 0, 1) := by decide +kernel
theorem dX8_count_81 : decode cX8_count 81 = .ok (.getfield 7, 3) := by decide +kernel
theorem dX8_count_84 : decode cX8_count 84 = .ok (.iconst 2, 1) := by decide +kernel
theorem dX8_count_85 : decode cX8_count 85 = .ok (.iload_n 1, 1) := by decide +kernel
theorem dX8_count_86 : decode cX8_count 86 = .ok (.iadd, 1) := by decide +kernel
theorem dX8_count_87 : decode cX8_count 87 = .ok (.iaload, 1) := by decide +kernel
theorem dX8_count_88 : decode cX8_count 88 = .ok (.ireturn, 1) := by decide +kernel
theorem dX8_count_89 : decode cX8_count 89 = .ok (.aload_n 0, 1) := by decide +kernel
theorem dX8_count_90 : decode cX8_count 90 = .ok (.iload_n 1, 1) := by decide +kernel
theorem dX8_count_91 : decode cX8_count 91 = .ok (.iconst 5, 1) := by decide +kernel
theorem dX8_count_92 : decode cX8_count 92 = .ok (.if_icmp .ne 7, 3) := by decide +kernel
theorem dX8_count_95 : decode cX8_count 95 = .ok (.iconst 1, 1) := by decide +kernel
theorem dX8_count_96 : decode cX8_count 96 = .ok (.goto 4, 3) := by decide +kernel
theorem dX8_count_99 : decode cX8_count 99 = .ok (.iconst 0, 1) := by decide +kernel
theorem dX8_count_100 : decode cX8_count 100 = .ok (.invokevirtual 170, 3) := by decide +kernel
theorem dX8_count_103 : decode cX8_count 103 = .ok (.ireturn, 1) := by decide +kernel
theorem dX8_count_104 : decode cX8_count 104 = .ok (.aload_n 0, 1) := by decide +kernel
theorem dX8_count_105 : decode cX8_count 105 = .ok (.getfield 7, 3) := by decide +kernel
theorem dX8_count_108 : decode cX8_count 108 = .ok (.bipush 6, 2) := by decide +kernel
theorem dX8_count_110 : decode cX8_count 110 = .ok (.iload_n 1, 1) := by decide +kernel
theorem dX8_count_111 : decode cX8_count 111 = .ok (.iadd, 1) := by decide +kernel
theorem dX8_count_112 : decode cX8_count 112 = .ok (.bipush 6, 2) := by decide +kernel
theorem dX8_count_114 : decode cX8_count 114 = .ok (.isub, 1) := by decide +kernel
theorem dX8_count_115 : decode cX8_count 115 = .ok (.iaload, 1) := by decide +kernel
theorem dX8_count_116 : decode cX8_count 116 = .ok (.ireturn, 1) := by decide +kernel
theorem dX8_count_117 : decode cX8_count 117 = .ok (.aload_n 0, 1) := by decide +kernel
theorem dX8_count_118 : decode cX8_count 118 = .ok (.invokevirtual 194, 3) := by decide +kernel
theorem dX8_count_121 : decode cX8_count 121 = .ok (.ireturn, 1) := by decide +kernel
theorem dX8_count_122 : decode cX8_count 122 = .ok (.aload_n 0, 1) := by decide +kernel
theorem dX8_count_123 : decode cX8_count 123 = .ok (.getfield 7, 3) := by decide +kernel
theorem dX8_count_126 : decode cX8_count 126 = .ok (.iload_n 1, 1) := by decide +kernel
theorem dX8_count_127 : decode cX8_count 127 = .ok (.bipush 12, 2) := by decide +kernel
theorem dX8_count_129 : decode cX8_count 129 = .ok (.isub, 1) := by decide +kernel
theorem dX8_count_130 : decode cX8_count 130 = .ok (.iaload, 1) := by decide +kernel
theorem dX8_count_131 : decode cX8_count 131 = .ok (.ireturn, 1) := by decide +kernel
theorem dX8_count_132 : decode cX8_count 132 = .ok (.aload_n 0, 1) := by decide +kernel
theorem dX8_count_133 : decode cX8_count 133 = .ok (.getfield 29, 3) := by decide +kernel
theorem dX8_count_136 : decode cX8_count 136 = .ok (.ireturn, 1) := by decide +kernel
theorem dX8_count_137 : decode cX8_count 137 = .ok (.aload_n 0, 1) := by decide +kernel
theorem dX8_count_138 : decode cX8_count 138 = .ok (.getfield 121, 3) := by decide +kernel
theorem dX8_count_141 : decode cX8_count 141 = .ok (.ireturn, 1) := by decide +kernel
theorem dX8_count_142 : decode cX8_count 142 = .ok (.bipush (-2), 2) := by decide +kernel
theorem dX8_count_144 : decode cX8_count 144 = .ok (.ireturn, 1) := by decide +kernel
theorem dL_law_0 : decode cL_law 0 = .ok (.new 7, 3) := by decide +kernel
theorem dL_law_3 : decode cL_law 3 = .ok (.dup, 1) := by decide +kernel
theorem dL_law_4 : decode cL_law 4 = .ok (.invokespecial 9, 3) := by decide +kernel
theorem dL_law_7 : decode cL_law 7 = .ok (.astore_n 1, 1) := by decide +kernel
theorem dL_law_8 : decode cL_law 8 = .ok (.new 10, 3) := by decide +kernel
theorem dL_law_11 : decode cL_law 11 = .ok (.dup, 1) := by decide +kernel
theorem dL_law_12 : decode cL_law 12 = .ok (.invokespecial 12, 3) := by decide +kernel
theorem dL_law_15 : decode cL_law 15 = .ok (.astore_n 2, 1) := by decide +kernel
theorem dL_law_16 : decode cL_law 16 = .ok (.iconst 0, 1) := by decide +kernel
theorem dL_law_17 : decode cL_law 17 = .ok (.istore_n 3, 1) := by decide +kernel
theorem dL_law_18 : decode cL_law 18 = .ok (.iload_n 3, 1) := by decide +kernel
theorem dL_law_19 : decode cL_law 19 = .ok (.aload_n 0, 1) := by decide +kernel
theorem dL_law_20 : decode cL_law 20 = .ok (.arraylength, 1) := by decide +kernel
theorem dL_law_21 : decode cL_law 21 = .ok (.iconst 5, 1) := by decide +kernel
theorem dL_law_22 : decode cL_law 22 = .ok (.isub, 1) := by decide +kernel
theorem dL_law_23 : decode cL_law 23 = .ok (.if_icmp .gt 741, 3) := by decide +kernel
theorem dL_law_26 : decode cL_law 26 = .ok (.aload_n 0, 1) := by decide +kernel
theorem dL_law_27 : decode cL_law 27 = .ok (.iload_n 3, 1) := by decide +kernel
theorem dL_law_28 : decode cL_law 28 = .ok (.iaload, 1) := by decide +kernel
theorem dL_law_29 : decode cL_law 29 = .ok (.bipush 31, 2) := by decide +kernel
theorem dL_law_31 : decode cL_law 31 = .ok (.iand, 1) := by decide +kernel
theorem dL_law_32 : decode cL_law 32 = .ok (.tableswitch 726 0 23 #[112, 145, 178, 231, 264, 287, 320, 345, 358, 371, 394, 407, 420, 433, 466, 499, 532, 555, 598, 621, 634, 657, 670, 703], 112) := by decide +kernel
theorem dL_law_144 : decode cL_law 144 = .ok (.aload_n 1, 1) := by decide +kernel
theorem dL_law_145 : decode cL_law 145 = .ok (.aload_n 0, 1) := by decide +kernel
theorem dL_law_146 : decode cL_law 146 = .ok (.iload_n 3, 1) := by decide +kernel
theorem dL_law_147 : decode cL_law 147 = .ok (.iconst 1, 1) := by decide +kernel
theorem dL_law_148 : decode cL_law 148 = .ok (.iadd, 1) := by decide +kernel
theorem dL_law_149 : decode cL_law 149 = .ok (.iaload, 1) := by decide +kernel
theorem dL_law_150 : decode cL_law 150 = .ok (.aload_n 0, 1) := by decide +kernel
theorem dL_law_151 : decode cL_law 151 = .ok (.iload_n 3, 1) := by decide +kernel
theorem dL_law_152 : decode cL_law 152 = .ok (.iconst 2, 1) := by decide +kernel
theorem dL_law_153 : decode cL_law 153 = .ok (.iadd, 1) := by decide +kernel
theorem dL_law_154 : decode cL_law 154 = .ok (.iaload, 1) := by decide +kernel
theorem dL_law_155 : decode cL_law 155 = .ok (.invokevirtual 13, 3) := by decide +kernel
theorem dL_law_158 : decode cL_law 158 = .ok (.aload_n 2, 1) := by decide +kernel
theorem dL_law_159 : decode cL_law 159 = .ok (.aload_n 0, 1) := by decide +kernel
theorem dL_law_160 : decode cL_law 160 = .ok (.iload_n 3, 1) := by decide +kernel
theorem dL_law_161 : decode cL_law 161 = .ok (.iconst 1, 1) := by decide +kernel
theorem dL_law_162 : decode cL_law 162 = .ok (.iadd, 1) := by decide +kernel
theorem dL_law_163 : decode cL_law 163 = .ok (.iaload, 1) := by decide +kernel
theorem dL_law_164 : decode cL_law 164 = .ok (.aload_n 0, 1) := by decide +kernel
theorem dL_law_165 : decode cL_law 165 = .ok (.iload_n 3, 1) := by decide +kernel
theorem dL_law_166 : decode cL_law 166 = .ok (.iconst 2, 1) := by decide +kernel
theorem dL_law_167 : decode cL_law 167 = .ok (.iadd, 1) := by decide +kernel
theorem dL_law_168 : decode cL_law 168 = .ok (.iaload, 1) := by decide +kernel
theorem dL_law_169 : decode cL_law 169 = .ok (.invokevirtual 17, 3) := by decide +kernel
theorem dL_law_172 : decode cL_law 172 = .ok (.if_icmp .eq 586, 3) := by decide +kernel
theorem dL_law_175 : decode cL_law 175 = .ok (.iconst 0, 1) := by decide +kernel
theorem dL_law_176 : decode cL_law 176 = .ok (.ireturn, 1) := by decide +kernel
theorem dL_law_177 : decode cL_law 177 = .ok (.aload_n 1, 1) := by decide +kernel
theorem dL_law_178 : decode cL_law 178 = .ok (.aload_n 0, 1) := by decide +kernel
theorem dL_law_179 : decode cL_law 179 = .ok (.iload_n 3, 1) := by decide +kernel
theorem dL_law_180 : decode cL_law 180 = .ok (.iconst 1, 1) := by decide +kernel
theorem dL_law_181 : decode cL_law 181 = .ok (.iadd, 1) := by decide +kernel
theorem dL_law_182 : decode cL_law 182 = .ok (.iaload, 1) := by decide +kernel
theorem dL_law_183 : decode cL_law 183 = .ok (.aload_n 0, 1) := by decide +kernel
theorem dL_law_184 : decode cL_law 184 = .ok (.iload_n 3, 1) := by decide +kernel
theorem dL_law_185 : decode cL_law 185 = .ok (.iconst 2, 1) := by decide +kernel
theorem dL_law_186 : decode cL_law 186 = .ok (.iadd, 1) := by decide +kernel
theorem dL_law_187 : decode cL_law 187 = .ok (.iaload, 1) := by decide +kernel
theorem dL_law_188 : decode cL_law 188 = .ok (.invokevirtual 18, 3) := by decide +kernel
theorem dL_law_191 : decode cL_law 191 = .ok (.aload_n 2, 1) := by decide +kernel
theorem dL_law_192 : decode cL_law 192 = .ok (.aload_n 0, 1) := by decide +kernel
theorem dL_law_193 : decode cL_law 193 = .ok (.iload_n 3, 1) := by decide +kernel
theorem dL_law_194 : decode cL_law 194 = .ok (.iconst 1, 1) := by decide +kernel
theorem dL_law_195 : decode cL_law 195 = .ok (.iadd, 1) := by decide +kernel
theorem dL_law_196 : decode cL_law 196 = .ok (.iaload, 1) := by decide +kernel
theorem dL_law_197 : decode cL_law 197 = .ok (.aload_n 0, 1) := by decide +kernel
theorem dL_law_198 : decode cL_law 198 = .ok (.iload_n 3, 1) := by decide +kernel
theorem dL_law_199 : decode cL_law 199 = .ok (.iconst 2, 1) := by decide +kernel
theorem dL_law_200 : decode cL_law 200 = .ok (.iadd, 1) := by decide +kernel
theorem dL_law_201 : decode cL_law 201 = .ok (.iaload, 1) := by decide +kernel
theorem dL_law_202 : decode cL_law 202 = .ok (.invokevirtual 21, 3) := by decide +kernel
theorem dL_law_205 : decode cL_law 205 = .ok (.if_icmp .eq 553, 3) := by decide +kernel
theorem dL_law_208 : decode cL_law 208 = .ok (.iconst 0, 1) := by decide +kernel
theorem dL_law_209 : decode cL_law 209 = .ok (.ireturn, 1) := by decide +kernel
theorem dL_law_210 : decode cL_law 210 = .ok (.aload_n 1, 1) := by decide +kernel
theorem dL_law_211 : decode cL_law 211 = .ok (.aload_n 0, 1) := by decide +kernel
theorem dL_law_212 : decode cL_law 212 = .ok (.iload_n 3, 1) := by decide +kernel
theorem dL_law_213 : decode cL_law 213 = .ok (.iconst 1, 1) := by decide +kernel
theorem dL_law_214 : decode cL_law 214 = .ok (.iadd, 1) := by decide +kernel
theorem dL_law_215 : decode cL_law 215 = .ok (.iaload, 1) := by decide +kernel
theorem dL_law_216 : decode cL_law 216 = .ok (.aload_n 0, 1) := by decide +kernel
theorem dL_law_217 : decode cL_law 217 = .ok (.iload_n 3, 1) := by decide +kernel
theorem dL_law_218 : decode cL_law 218 = .ok (.iconst 2, 1) := by decide +kernel
theorem dL_law_219 : decode cL_law 219 = .ok (.iadd, 1) := by decide +kernel
theorem dL_law_220 : decode cL_law 220 = .ok (.iaload, 1) := by decide +kernel
theorem dL_law_221 : decode cL_law 221 = .ok (.aload_n 0, 1) := by decide +kernel
theorem dL_law_222 : decode cL_law 222 = .ok (.iload_n 3, 1) := by decide +kernel
theorem dL_law_223 : decode cL_law 223 = .ok (.iconst 3, 1) := by decide +kernel
theorem dL_law_224 : decode cL_law 224 = .ok (.iadd, 1) := by decide +kernel
theorem dL_law_225 : decode cL_law 225 = .ok (.iaload, 1) := by decide +kernel
theorem dL_law_226 : decode cL_law 226 = .ok (.aload_n 0, 1) := by decide +kernel
theorem dL_law_227 : decode cL_law 227 = .ok (.iload_n 3, 1) := by decide +kernel
theorem dL_law_228 : decode cL_law 228 = .ok (.iconst 4, 1) := by decide +kernel
theorem dL_law_229 : decode cL_law 229 = .ok (.iadd, 1) := by decide +kernel
theorem dL_law_230 : decode cL_law 230 = .ok (.iaload, 1) := by decide +kernel
theorem dL_law_231 : decode cL_law 231 = .ok (.invokevirtual 22, 3) := by decide +kernel
theorem dL_law_234 : decode cL_law 234 = .ok (.aload_n 2, 1) := by decide +kernel
theorem dL_law_235 : decode cL_law 235 = .ok (.aload_n 0, 1) := by decide +kernel
theorem dL_law_236 : decode cL_law 236 = .ok (.iload_n 3, 1) := by decide +kernel
theorem dL_law_237 : decode cL_law 237 = .ok (.iconst 1, 1) := by decide +kernel
theorem dL_law_238 : decode cL_law 238 = .ok (.iadd, 1) := by decide +kernel
theorem dL_law_239 : decode cL_law 239 = .ok (.iaload, 1) := by decide +kernel
theorem dL_law_240 : decode cL_law 240 = .ok (.aload_n 0, 1) := by decide +kernel
theorem dL_law_241 : decode cL_law 241 = .ok (.iload_n 3, 1) := by decide +kernel
theorem dL_law_242 : decode cL_law 242 = .ok (.iconst 2, 1) := by decide +kernel
theorem dL_law_243 : decode cL_law 243 = .ok (.iadd, 1) := by decide +kernel
theorem dL_law_244 : decode cL_law 244 = .ok (.iaload, 1) := by decide +kernel
theorem dL_law_245 : decode cL_law 245 = .ok (.aload_n 0, 1) := by decide +kernel
theorem dL_law_246 : decode cL_law 246 = .ok (.iload_n 3, 1) := by decide +kernel
theorem dL_law_247 : decode cL_law 247 = .ok (.iconst 3, 1) := by decide +kernel
theorem dL_law_248 : decode cL_law 248 = .ok (.iadd, 1) := by decide +kernel
theorem dL_law_249 : decode cL_law 249 = .ok (.iaload, 1) := by decide +kernel
theorem dL_law_250 : decode cL_law 250 = .ok (.aload_n 0, 1) := by decide +kernel
theorem dL_law_251 : decode cL_law 251 = .ok (.iload_n 3, 1) := by decide +kernel
theorem dL_law_252 : decode cL_law 252 = .ok (.iconst 4, 1) := by decide +kernel
theorem dL_law_253 : decode cL_law 253 = .ok (.iadd, 1) := by decide +kernel
theorem dL_law_254 : decode cL_law 254 = .ok (.iaload, 1) := by decide +kernel
theorem dL_law_255 : decode cL_law 255 = .ok (.invokevirtual 26, 3) := by decide +kernel
theorem dL_law_258 : decode cL_law 258 = .ok (.if_icmp .eq 500, 3) := by decide +kernel
theorem dL_law_261 : decode cL_law 261 = .ok (.iconst 0, 1) := by decide +kernel
theorem dL_law_262 : decode cL_law 262 = .ok (.ireturn, 1) := by decide +kernel
theorem dL_law_263 : decode cL_law 263 = .ok (.aload_n 1, 1) := by decide +kernel
theorem dL_law_264 : decode cL_law 264 = .ok (.aload_n 0, 1) := by decide +kernel
theorem dL_law_265 : decode cL_law 265 = .ok (.iload_n 3, 1) := by decide +kernel
theorem dL_law_266 : decode cL_law 266 = .ok (.iconst 1, 1) := by decide +kernel
theorem dL_law_267 : decode cL_law 267 = .ok (.iadd, 1) := by decide +kernel
theorem dL_law_268 : decode cL_law 268 = .ok (.iaload, 1) := by decide +kernel
theorem dL_law_269 : decode cL_law 269 = .ok (.aload_n 0, 1) := by decide +kernel
theorem dL_law_270 : decode cL_law 270 = .ok (.iload_n 3, 1) := by decide +kernel
theorem dL_law_271 : decode cL_law 271 = .ok (.iconst 2, 1) := by decide +kernel
theorem dL_law_272 : decode cL_law 272 = .ok (.iadd, 1) := by decide +kernel
theorem dL_law_273 : decode cL_law 273 = .ok (.iaload, 1) := by decide +kernel
theorem dL_law_274 : decode cL_law 274 = .ok (.invokevirtual 27, 3) := by decide +kernel
theorem dL_law_277 : decode cL_law 277 = .ok (.aload_n 2, 1) := by decide +kernel
theorem dL_law_278 : decode cL_law 278 = .ok (.aload_n 0, 1) := by decide +kernel
theorem dL_law_279 : decode cL_law 279 = .ok (.iload_n 3, 1) := by decide +kernel
theorem dL_law_280 : decode cL_law 280 = .ok (.iconst 1, 1) := by decide +kernel
theorem dL_law_281 : decode cL_law 281 = .ok (.iadd, 1) := by decide +kernel
theorem dL_law_282 : decode cL_law 282 = .ok (.iaload, 1) := by decide +kernel
theorem dL_law_283 : decode cL_law 283 = .ok (.aload_n 0, 1) := by decide +kernel
theorem dL_law_284 : decode cL_law 284 = .ok (.iload_n 3, 1) := by decide +kernel
theorem dL_law_285 : decode cL_law 285 = .ok (.iconst 2, 1) := by decide +kernel
theorem dL_law_286 : decode cL_law 286 = .ok (.iadd, 1) := by decide +kernel
theorem dL_law_287 : decode cL_law 287 = .ok (.iaload, 1) := by decide +kernel
theorem dL_law_288 : decode cL_law 288 = .ok (.invokevirtual 30, 3) := by decide +kernel
theorem dL_law_291 : decode cL_law 291 = .ok (.if_icmp .eq 467, 3) := by decide +kernel
theorem dL_law_294 : decode cL_law 294 = .ok (.iconst 0, 1) := by decide +kernel
theorem dL_law_295 : decode cL_law 295 = .ok (.ireturn, 1) := by decide +kernel
theorem dL_law_296 : decode cL_law 296 = .ok (.aload_n 1, 1) := by decide +kernel
theorem dL_law_297 : decode cL_law 297 = .ok (.aload_n 0, 1) := by decide +kernel
theorem dL_law_298 : decode cL_law 298 = .ok (.iload_n 3, 1) := by decide +kernel
theorem dL_law_299 : decode cL_law 299 = .ok (.iconst 1, 1) := by decide +kernel
theorem dL_law_300 : decode cL_law 300 = .ok (.iadd, 1) := by decide +kernel
theorem dL_law_301 : decode cL_law 301 = .ok (.iaload, 1) := by decide +kernel
theorem dL_law_302 : decode cL_law 302 = .ok (.invokevirtual 31, 3) := by decide +kernel
theorem dL_law_305 : decode cL_law 305 = .ok (.aload_n 2, 1) := by decide +kernel
theorem dL_law_306 : decode cL_law 306 = .ok (.aload_n 0, 1) := by decide +kernel
theorem dL_law_307 : decode cL_law 307 = .ok (.iload_n 3, 1) := by decide +kernel
theorem dL_law_308 : decode cL_law 308 = .ok (.iconst 1, 1) := by decide +kernel
theorem dL_law_309 : decode cL_law 309 = .ok (.iadd, 1) := by decide +kernel
theorem dL_law_310 : decode cL_law 310 = .ok (.iaload, 1) := by decide +kernel
theorem dL_law_311 : decode cL_law 311 = .ok (.invokevirtual 35, 3) := by decide +kernel
theorem dL_law_314 : decode cL_law 314 = .ok (.if_icmp .eq 444, 3) := by decide +kernel
theorem dL_law_317 : decode cL_law 317 = .ok (.iconst 0, 1) := by decide +kernel
theorem dL_law_318 : decode cL_law 318 = .ok (.ireturn, 1) := by decide +kernel
theorem dL_law_319 : decode cL_law 319 = .ok (.aload_n 1, 1) := by decide +kernel
theorem dL_law_320 : decode cL_law 320 = .ok (.aload_n 0, 1) := by decide +kernel
theorem dL_law_321 : decode cL_law 321 = .ok (.iload_n 3, 1) := by decide +kernel
theorem dL_law_322 : decode cL_law 322 = .ok (.iconst 1, 1) := by decide +kernel
theorem dL_law_323 : decode cL_law 323 = .ok (.iadd, 1) := by decide +kernel
theorem dL_law_324 : decode cL_law 324 = .ok (.iaload, 1) := by decide +kernel
theorem dL_law_325 : decode cL_law 325 = .ok (.aload_n 0, 1) := by decide +kernel
theorem dL_law_326 : decode cL_law 326 = .ok (.iload_n 3, 1) := by decide +kernel
theorem dL_law_327 : decode cL_law 327 = .ok (.iconst 2, 1) := by decide +kernel
theorem dL_law_328 : decode cL_law 328 = .ok (.iadd, 1) := by decide +kernel
theorem dL_law_329 : decode cL_law 329 = .ok (.iaload, 1) := by decide +kernel
theorem dL_law_330 : decode cL_law 330 = .ok (.invokevirtual 36, 3) := by decide +kernel
theorem dL_law_333 : decode cL_law 333 = .ok (.aload_n 2, 1) := by decide +kernel
theorem dL_law_334 : decode cL_law 334 = .ok (.aload_n 0, 1) := by decide +kernel
theorem dL_law_335 : decode cL_law 335 = .ok (.iload_n 3, 1) := by decide +kernel
theorem dL_law_336 : decode cL_law 336 = .ok (.iconst 1, 1) := by decide +kernel
theorem dL_law_337 : decode cL_law 337 = .ok (.iadd, 1) := by decide +kernel
theorem dL_law_338 : decode cL_law 338 = .ok (.iaload, 1) := by decide +kernel
theorem dL_law_339 : decode cL_law 339 = .ok (.aload_n 0, 1) := by decide +kernel
theorem dL_law_340 : decode cL_law 340 = .ok (.iload_n 3, 1) := by decide +kernel
theorem dL_law_341 : decode cL_law 341 = .ok (.iconst 2, 1) := by decide +kernel
theorem dL_law_342 : decode cL_law 342 = .ok (.iadd, 1) := by decide +kernel
theorem dL_law_343 : decode cL_law 343 = .ok (.iaload, 1) := by decide +kernel
theorem dL_law_344 : decode cL_law 344 = .ok (.invokevirtual 39, 3) := by decide +kernel
theorem dL_law_347 : decode cL_law 347 = .ok (.if_icmp .eq 411, 3) := by decide +kernel
theorem dL_law_350 : decode cL_law 350 = .ok (.iconst 0, 1) := by decide +kernel
theorem dL_law_351 : decode cL_law 351 = .ok (.ireturn, 1) := by decide +kernel
theorem dL_law_352 : decode cL_law 352 = .ok (.aload_n 1, 1) := by decide +kernel
theorem dL_law_353 : decode cL_law 353 = .ok (.aload_n 0, 1) := by decide +kernel
theorem dL_law_354 : decode cL_law 354 = .ok (.iload_n 3, 1) := by decide +kernel
theorem dL_law_355 : decode cL_law 355 = .ok (.iconst 1, 1) := by decide +kernel
theorem dL_law_356 : decode cL_law 356 = .ok (.iadd, 1) := by decide +kernel
theorem dL_law_357 : decode cL_law 357 = .ok (.iaload, 1) := by decide +kernel
theorem dL_law_358 : decode cL_law 358 = .ok (.i2c, 1) := by decide +kernel
theorem dL_law_359 : decode cL_law 359 = .ok (.invokevirtual 40, 3) := by decide +kernel
theorem dL_law_362 : decode cL_law 362 = .ok (.aload_n 2, 1) := by decide +kernel
theorem dL_law_363 : decode cL_law 363 = .ok (.aload_n 0, 1) := by decide +kernel
theorem dL_law_364 : decode cL_law 364 = .ok (.iload_n 3, 1) := by decide +kernel
theorem dL_law_365 : decode cL_law 365 = .ok (.iconst 1, 1) := by decide +kernel
theorem dL_law_366 : decode cL_law 366 = .ok (.iadd, 1) := by decide +kernel
theorem dL_law_367 : decode cL_law 367 = .ok (.iaload, 1) := by decide +kernel
theorem dL_law_368 : decode cL_law 368 = .ok (.i2c, 1) := by decide +kernel
theorem dL_law_369 : decode cL_law 369 = .ok (.invokevirtual 44, 3) := by decide +kernel
theorem dL_law_372 : decode cL_law 372 = .ok (.if_icmp .eq 386, 3) := by decide +kernel
theorem dL_law_375 : decode cL_law 375 = .ok (.iconst 0, 1) := by decide +kernel
theorem dL_law_376 : decode cL_law 376 = .ok (.ireturn, 1) := by decide +kernel
theorem dL_law_377 : decode cL_law 377 = .ok (.aload_n 1, 1) := by decide +kernel
theorem dL_law_378 : decode cL_law 378 = .ok (.invokevirtual 45, 3) := by decide +kernel
theorem dL_law_381 : decode cL_law 381 = .ok (.aload_n 2, 1) := by decide +kernel
theorem dL_law_382 : decode cL_law 382 = .ok (.invokevirtual 49, 3) := by decide +kernel
theorem dL_law_385 : decode cL_law 385 = .ok (.if_icmp .eq 373, 3) := by decide +kernel
theorem dL_law_388 : decode cL_law 388 = .ok (.iconst 0, 1) := by decide +kernel
theorem dL_law_389 : decode cL_law 389 = .ok (.ireturn, 1) := by decide +kernel
theorem dL_law_390 : decode cL_law 390 = .ok (.aload_n 1, 1) := by decide +kernel
theorem dL_law_391 : decode cL_law 391 = .ok (.invokevirtual 50, 3) := by decide +kernel
theorem dL_law_394 : decode cL_law 394 = .ok (.aload_n 2, 1) := by decide +kernel
theorem dL_law_395 : decode cL_law 395 = .ok (.invokevirtual 53, 3) := by decide +kernel
theorem dL_law_398 : decode cL_law 398 = .ok (.if_icmp .eq 360, 3) := by decide +kernel
theorem dL_law_401 : decode cL_law 401 = .ok (.iconst 0, 1) := by decide +kernel
theorem dL_law_402 : decode cL_law 402 = .ok (.ireturn, 1) := by decide +kernel
theorem dL_law_403 : decode cL_law 403 = .ok (.aload_n 1, 1) := by decide +kernel
theorem dL_law_404 : decode cL_law 404 = .ok (.aload_n 0, 1) := by decide +kernel
theorem dL_law_405 : decode cL_law 405 = .ok (.iload_n 3, 1) := by decide +kernel
theorem dL_law_406 : decode cL_law 406 = .ok (.iconst 1, 1) := by decide +kernel
theorem dL_law_407 : decode cL_law 407 = .ok (.iadd, 1) := by decide +kernel
theorem dL_law_408 : decode cL_law 408 = .ok (.iaload, 1) := by decide +kernel
theorem dL_law_409 : decode cL_law 409 = .ok (.invokevirtual 54, 3) := by decide +kernel
theorem dL_law_412 : decode cL_law 412 = .ok (.aload_n 2, 1) := by decide +kernel
theorem dL_law_413 : decode cL_law 413 = .ok (.aload_n 0, 1) := by decide +kernel
theorem dL_law_414 : decode cL_law 414 = .ok (.iload_n 3, 1) := by decide +kernel
theorem dL_law_415 : decode cL_law 415 = .ok (.iconst 1, 1) := by decide +kernel
theorem dL_law_416 : decode cL_law 416 = .ok (.iadd, 1) := by decide +kernel
theorem dL_law_417 : decode cL_law 417 = .ok (.iaload, 1) := by decide +kernel
theorem dL_law_418 : decode cL_law 418 = .ok (.invokevirtual 57, 3) := by decide +kernel
theorem dL_law_421 : decode cL_law 421 = .ok (.if_icmp .eq 337, 3) := by decide +kernel
theorem dL_law_424 : decode cL_law 424 = .ok (.iconst 0, 1) := by decide +kernel
theorem dL_law_425 : decode cL_law 425 = .ok (.ireturn, 1) := by decide +kernel
theorem dL_law_426 : decode cL_law 426 = .ok (.aload_n 1, 1) := by decide +kernel
theorem dL_law_427 : decode cL_law 427 = .ok (.invokevirtual 58, 3) := by decide +kernel
theorem dL_law_430 : decode cL_law 430 = .ok (.aload_n 2, 1) := by decide +kernel
theorem dL_law_431 : decode cL_law 431 = .ok (.invokevirtual 61, 3) := by decide +kernel
theorem dL_law_434 : decode cL_law 434 = .ok (.if_icmp .eq 324, 3) := by decide +kernel
theorem dL_law_437 : decode cL_law 437 = .ok (.iconst 0, 1) := by decide +kernel
theorem dL_law_438 : decode cL_law 438 = .ok (.ireturn, 1) := by decide +kernel
theorem dL_law_439 : decode cL_law 439 = .ok (.aload_n 1, 1) := by decide +kernel
theorem dL_law_440 : decode cL_law 440 = .ok (.invokevirtual 62, 3) := by decide +kernel
theorem dL_law_443 : decode cL_law 443 = .ok (.aload_n 2, 1) := by decide +kernel
theorem dL_law_444 : decode cL_law 444 = .ok (.invokevirtual 65, 3) := by decide +kernel
theorem dL_law_447 : decode cL_law 447 = .ok (.if_icmp .eq 311, 3) := by decide +kernel
theorem dL_law_450 : decode cL_law 450 = .ok (.iconst 0, 1) := by decide +kernel
theorem dL_law_451 : decode cL_law 451 = .ok (.ireturn, 1) := by decide +kernel
theorem dL_law_452 : decode cL_law 452 = .ok (.aload_n 1, 1) := by decide +kernel
theorem dL_law_453 : decode cL_law 453 = .ok (.invokevirtual 66, 3) := by decide +kernel
theorem dL_law_456 : decode cL_law 456 = .ok (.aload_n 2, 1) := by decide +kernel
theorem dL_law_457 : decode cL_law 457 = .ok (.invokevirtual 69, 3) := by decide +kernel
theorem dL_law_460 : decode cL_law 460 = .ok (.if_icmp .eq 298, 3) := by decide +kernel
theorem dL_law_463 : decode cL_law 463 = .ok (.iconst 0, 1) := by decide +kernel
theorem dL_law_464 : decode cL_law 464 = .ok (.ireturn, 1) := by decide +kernel
theorem dL_law_465 : decode cL_law 465 = .ok (.aload_n 1, 1) := by decide +kernel
theorem dL_law_466 : decode cL_law 466 = .ok (.aload_n 0, 1) := by decide +kernel
theorem dL_law_467 : decode cL_law 467 = .ok (.iload_n 3, 1) := by decide +kernel
theorem dL_law_468 : decode cL_law 468 = .ok (.iconst 1, 1) := by decide +kernel
theorem dL_law_469 : decode cL_law 469 = .ok (.iadd, 1) := by decide +kernel
theorem dL_law_470 : decode cL_law 470 = .ok (.iaload, 1) := by decide +kernel
theorem dL_law_471 : decode cL_law 471 = .ok (.aload_n 0, 1) := by decide +kernel
theorem dL_law_472 : decode cL_law 472 = .ok (.iload_n 3, 1) := by decide +kernel
theorem dL_law_473 : decode cL_law 473 = .ok (.iconst 2, 1) := by decide +kernel
theorem dL_law_474 : decode cL_law 474 = .ok (.iadd, 1) := by decide +kernel
theorem dL_law_475 : decode cL_law 475 = .ok (.iaload, 1) := by decide +kernel
theorem dL_law_476 : decode cL_law 476 = .ok (.invokevirtual 70, 3) := by decide +kernel
theorem dL_law_479 : decode cL_law 479 = .ok (.aload_n 2, 1) := by decide +kernel
theorem dL_law_480 : decode cL_law 480 = .ok (.aload_n 0, 1) := by decide +kernel
theorem dL_law_481 : decode cL_law 481 = .ok (.iload_n 3, 1) := by decide +kernel
theorem dL_law_482 : decode cL_law 482 = .ok (.iconst 1, 1) := by decide +kernel
theorem dL_law_483 : decode cL_law 483 = .ok (.iadd, 1) := by decide +kernel
theorem dL_law_484 : decode cL_law 484 = .ok (.iaload, 1) := by decide +kernel
theorem dL_law_485 : decode cL_law 485 = .ok (.aload_n 0, 1) := by decide +kernel
theorem dL_law_486 : decode cL_law 486 = .ok (.iload_n 3, 1) := by decide +kernel
theorem dL_law_487 : decode cL_law 487 = .ok (.iconst 2, 1) := by decide +kernel
theorem dL_law_488 : decode cL_law 488 = .ok (.iadd, 1) := by decide +kernel
theorem dL_law_489 : decode cL_law 489 = .ok (.iaload, 1) := by decide +kernel
theorem dL_law_490 : decode cL_law 490 = .ok (.invokevirtual 73, 3) := by decide +kernel
theorem dL_law_493 : decode cL_law 493 = .ok (.if_icmp .eq 265, 3) := by decide +kernel
theorem dL_law_496 : decode cL_law 496 = .ok (.iconst 0, 1) := by decide +kernel
theorem dL_law_497 : decode cL_law 497 = .ok (.ireturn, 1) := by decide +kernel
theorem dL_law_498 : decode cL_law 498 = .ok (.aload_n 1, 1) := by decide +kernel
theorem dL_law_499 : decode cL_law 499 = .ok (.aload_n 0, 1) := by decide +kernel
theorem dL_law_500 : decode cL_law 500 = .ok (.iload_n 3, 1) := by decide +kernel
theorem dL_law_501 : decode cL_law 501 = .ok (.iconst 1, 1) := by decide +kernel
theorem dL_law_502 : decode cL_law 502 = .ok (.iadd, 1) := by decide +kernel
theorem dL_law_503 : decode cL_law 503 = .ok (.iaload, 1) := by decide +kernel
theorem dL_law_504 : decode cL_law 504 = .ok (.aload_n 0, 1) := by decide +kernel
theorem dL_law_505 : decode cL_law 505 = .ok (.iload_n 3, 1) := by decide +kernel
theorem dL_law_506 : decode cL_law 506 = .ok (.iconst 2, 1) := by decide +kernel
theorem dL_law_507 : decode cL_law 507 = .ok (.iadd, 1) := by decide +kernel
theorem dL_law_508 : decode cL_law 508 = .ok (.iaload, 1) := by decide +kernel
theorem dL_law_509 : decode cL_law 509 = .ok (.invokevirtual 74, 3) := by decide +kernel
theorem dL_law_512 : decode cL_law 512 = .ok (.aload_n 2, 1) := by decide +kernel
theorem dL_law_513 : decode cL_law 513 = .ok (.aload_n 0, 1) := by decide +kernel
theorem dL_law_514 : decode cL_law 514 = .ok (.iload_n 3, 1) := by decide +kernel
theorem dL_law_515 : decode cL_law 515 = .ok (.iconst 1, 1) := by decide +kernel
theorem dL_law_516 : decode cL_law 516 = .ok (.iadd, 1) := by decide +kernel
theorem dL_law_517 : decode cL_law 517 = .ok (.iaload, 1) := by decide +kernel
theorem dL_law_518 : decode cL_law 518 = .ok (.aload_n 0, 1) := by decide +kernel
theorem dL_law_519 : decode cL_law 519 = .ok (.iload_n 3, 1) := by decide +kernel
theorem dL_law_520 : decode cL_law 520 = .ok (.iconst 2, 1) := by decide +kernel
theorem dL_law_521 : decode cL_law 521 = .ok (.iadd, 1) := by decide +kernel
theorem dL_law_522 : decode cL_law 522 = .ok (.iaload, 1) := by decide +kernel
theorem dL_law_523 : decode cL_law 523 = .ok (.invokevirtual 77, 3) := by decide +kernel
theorem dL_law_526 : decode cL_law 526 = .ok (.if_icmp .eq 232, 3) := by decide +kernel
theorem dL_law_529 : decode cL_law 529 = .ok (.iconst 0, 1) := by decide +kernel
theorem dL_law_530 : decode cL_law 530 = .ok (.ireturn, 1) := by decide +kernel
theorem dL_law_531 : decode cL_law 531 = .ok (.aload_n 1, 1) := by decide +kernel
theorem dL_law_532 : decode cL_law 532 = .ok (.aload_n 0, 1) := by decide +kernel
theorem dL_law_533 : decode cL_law 533 = .ok (.iload_n 3, 1) := by decide +kernel
theorem dL_law_534 : decode cL_law 534 = .ok (.iconst 1, 1) := by decide +kernel
theorem dL_law_535 : decode cL_law 535 = .ok (.iadd, 1) := by decide +kernel
theorem dL_law_536 : decode cL_law 536 = .ok (.iaload, 1) := by decide +kernel
theorem dL_law_537 : decode cL_law 537 = .ok (.aload_n 0, 1) := by decide +kernel
theorem dL_law_538 : decode cL_law 538 = .ok (.iload_n 3, 1) := by decide +kernel
theorem dL_law_539 : decode cL_law 539 = .ok (.iconst 2, 1) := by decide +kernel
theorem dL_law_540 : decode cL_law 540 = .ok (.iadd, 1) := by decide +kernel
theorem dL_law_541 : decode cL_law 541 = .ok (.iaload, 1) := by decide +kernel
theorem dL_law_542 : decode cL_law 542 = .ok (.invokevirtual 78, 3) := by decide +kernel
theorem dL_law_545 : decode cL_law 545 = .ok (.aload_n 2, 1) := by decide +kernel
theorem dL_law_546 : decode cL_law 546 = .ok (.aload_n 0, 1) := by decide +kernel
theorem dL_law_547 : decode cL_law 547 = .ok (.iload_n 3, 1) := by decide +kernel
theorem dL_law_548 : decode cL_law 548 = .ok (.iconst 1, 1) := by decide +kernel
theorem dL_law_549 : decode cL_law 549 = .ok (.iadd, 1) := by decide +kernel
theorem dL_law_550 : decode cL_law 550 = .ok (.iaload, 1) := by decide +kernel
theorem dL_law_551 : decode cL_law 551 = .ok (.aload_n 0, 1) := by decide +kernel
theorem dL_law_552 : decode cL_law 552 = .ok (.iload_n 3, 1) := by decide +kernel
theorem dL_law_553 : decode cL_law 553 = .ok (.iconst 2, 1) := by decide +kernel
theorem dL_law_554 : decode cL_law 554 = .ok (.iadd, 1) := by decide +kernel
theorem dL_law_555 : decode cL_law 555 = .ok (.iaload, 1) := by decide +kernel
theorem dL_law_556 : decode cL_law 556 = .ok (.invokevirtual 81, 3) := by decide +kernel
theorem dL_law_559 : decode cL_law 559 = .ok (.if_icmp .eq 199, 3) := by decide +kernel
theorem dL_law_562 : decode cL_law 562 = .ok (.iconst 0, 1) := by decide +kernel
theorem dL_law_563 : decode cL_law 563 = .ok (.ireturn, 1) := by decide +kernel
theorem dL_law_564 : decode cL_law 564 = .ok (.aload_n 1, 1) := by decide +kernel
theorem dL_law_565 : decode cL_law 565 = .ok (.aload_n 0, 1) := by decide +kernel
theorem dL_law_566 : decode cL_law 566 = .ok (.iload_n 3, 1) := by decide +kernel
theorem dL_law_567 : decode cL_law 567 = .ok (.iconst 1, 1) := by decide +kernel
theorem dL_law_568 : decode cL_law 568 = .ok (.iadd, 1) := by decide +kernel
theorem dL_law_569 : decode cL_law 569 = .ok (.iaload, 1) := by decide +kernel
theorem dL_law_570 : decode cL_law 570 = .ok (.invokevirtual 82, 3) := by decide +kernel
theorem dL_law_573 : decode cL_law 573 = .ok (.aload_n 2, 1) := by decide +kernel
theorem dL_law_574 : decode cL_law 574 = .ok (.aload_n 0, 1) := by decide +kernel
theorem dL_law_575 : decode cL_law 575 = .ok (.iload_n 3, 1) := by decide +kernel
theorem dL_law_576 : decode cL_law 576 = .ok (.iconst 1, 1) := by decide +kernel
theorem dL_law_577 : decode cL_law 577 = .ok (.iadd, 1) := by decide +kernel
theorem dL_law_578 : decode cL_law 578 = .ok (.iaload, 1) := by decide +kernel
theorem dL_law_579 : decode cL_law 579 = .ok (.invokevirtual 85, 3) := by decide +kernel
theorem dL_law_582 : decode cL_law 582 = .ok (.if_icmp .eq 176, 3) := by decide +kernel
theorem dL_law_585 : decode cL_law 585 = .ok (.iconst 0, 1) := by decide +kernel
theorem dL_law_586 : decode cL_law 586 = .ok (.ireturn, 1) := by decide +kernel
theorem dL_law_587 : decode cL_law 587 = .ok (.aload_n 1, 1) := by decide +kernel
theorem dL_law_588 : decode cL_law 588 = .ok (.aload_n 0, 1) := by decide +kernel
theorem dL_law_589 : decode cL_law 589 = .ok (.iload_n 3, 1) := by decide +kernel
theorem dL_law_590 : decode cL_law 590 = .ok (.iconst 1, 1) := by decide +kernel
theorem dL_law_591 : decode cL_law 591 = .ok (.iadd, 1) := by decide +kernel
theorem dL_law_592 : decode cL_law 592 = .ok (.iaload, 1) := by decide +kernel
theorem dL_law_593 : decode cL_law 593 = .ok (.aload_n 0, 1) := by decide +kernel
theorem dL_law_594 : decode cL_law 594 = .ok (.iload_n 3, 1) := by decide +kernel
theorem dL_law_595 : decode cL_law 595 = .ok (.iconst 2, 1) := by decide +kernel
theorem dL_law_596 : decode cL_law 596 = .ok (.iadd, 1) := by decide +kernel
theorem dL_law_597 : decode cL_law 597 = .ok (.iaload, 1) := by decide +kernel
theorem dL_law_598 : decode cL_law 598 = .ok (.aload_n 0, 1) := by decide +kernel
theorem dL_law_599 : decode cL_law 599 = .ok (.iload_n 3, 1) := by decide +kernel
theorem dL_law_600 : decode cL_law 600 = .ok (.iconst 3, 1) := by decide +kernel
theorem dL_law_601 : decode cL_law 601 = .ok (.iadd, 1) := by decide +kernel
theorem dL_law_602 : decode cL_law 602 = .ok (.iaload, 1) := by decide +kernel
theorem dL_law_603 : decode cL_law 603 = .ok (.invokevirtual 86, 3) := by decide +kernel
theorem dL_law_606 : decode cL_law 606 = .ok (.aload_n 2, 1) := by decide +kernel
theorem dL_law_607 : decode cL_law 607 = .ok (.aload_n 0, 1) := by decide +kernel
theorem dL_law_608 : decode cL_law 608 = .ok (.iload_n 3, 1) := by decide +kernel
theorem dL_law_609 : decode cL_law 609 = .ok (.iconst 1, 1) := by decide +kernel
theorem dL_law_610 : decode cL_law 610 = .ok (.iadd, 1) := by decide +kernel
theorem dL_law_611 : decode cL_law 611 = .ok (.iaload, 1) := by decide +kernel
theorem dL_law_612 : decode cL_law 612 = .ok (.aload_n 0, 1) := by decide +kernel
theorem dL_law_613 : decode cL_law 613 = .ok (.iload_n 3, 1) := by decide +kernel
theorem dL_law_614 : decode cL_law 614 = .ok (.iconst 2, 1) := by decide +kernel
theorem dL_law_615 : decode cL_law 615 = .ok (.iadd, 1) := by decide +kernel
theorem dL_law_616 : decode cL_law 616 = .ok (.iaload, 1) := by decide +kernel
theorem dL_law_617 : decode cL_law 617 = .ok (.aload_n 0, 1) := by decide +kernel
theorem dL_law_618 : decode cL_law 618 = .ok (.iload_n 3, 1) := by decide +kernel
theorem dL_law_619 : decode cL_law 619 = .ok (.iconst 3, 1) := by decide +kernel
theorem dL_law_620 : decode cL_law 620 = .ok (.iadd, 1) := by decide +kernel
theorem dL_law_621 : decode cL_law 621 = .ok (.iaload, 1) := by decide +kernel
theorem dL_law_622 : decode cL_law 622 = .ok (.invokevirtual 90, 3) := by decide +kernel
theorem dL_law_625 : decode cL_law 625 = .ok (.if_icmp .eq 133, 3) := by decide +kernel
theorem dL_law_628 : decode cL_law 628 = .ok (.iconst 0, 1) := by decide +kernel
theorem dL_law_629 : decode cL_law 629 = .ok (.ireturn, 1) := by decide +kernel
theorem dL_law_630 : decode cL_law 630 = .ok (.aload_n 1, 1) := by decide +kernel
theorem dL_law_631 : decode cL_law 631 = .ok (.aload_n 0, 1) := by decide +kernel
theorem dL_law_632 : decode cL_law 632 = .ok (.iload_n 3, 1) := by decide +kernel
theorem dL_law_633 : decode cL_law 633 = .ok (.iconst 1, 1) := by decide +kernel
theorem dL_law_634 : decode cL_law 634 = .ok (.iadd, 1) := by decide +kernel
theorem dL_law_635 : decode cL_law 635 = .ok (.iaload, 1) := by decide +kernel
theorem dL_law_636 : decode cL_law 636 = .ok (.invokevirtual 91, 3) := by decide +kernel
theorem dL_law_639 : decode cL_law 639 = .ok (.aload_n 2, 1) := by decide +kernel
theorem dL_law_640 : decode cL_law 640 = .ok (.aload_n 0, 1) := by decide +kernel
theorem dL_law_641 : decode cL_law 641 = .ok (.iload_n 3, 1) := by decide +kernel
theorem dL_law_642 : decode cL_law 642 = .ok (.iconst 1, 1) := by decide +kernel
theorem dL_law_643 : decode cL_law 643 = .ok (.iadd, 1) := by decide +kernel
theorem dL_law_644 : decode cL_law 644 = .ok (.iaload, 1) := by decide +kernel
theorem dL_law_645 : decode cL_law 645 = .ok (.invokevirtual 94, 3) := by decide +kernel
theorem dL_law_648 : decode cL_law 648 = .ok (.if_icmp .eq 110, 3) := by decide +kernel
theorem dL_law_651 : decode cL_law 651 = .ok (.iconst 0, 1) := by decide +kernel
theorem dL_law_652 : decode cL_law 652 = .ok (.ireturn, 1) := by decide +kernel
theorem dL_law_653 : decode cL_law 653 = .ok (.aload_n 1, 1) := by decide +kernel
theorem dL_law_654 : decode cL_law 654 = .ok (.invokevirtual 95, 3) := by decide +kernel
theorem dL_law_657 : decode cL_law 657 = .ok (.aload_n 2, 1) := by decide +kernel
theorem dL_law_658 : decode cL_law 658 = .ok (.invokevirtual 98, 3) := by decide +kernel
theorem dL_law_661 : decode cL_law 661 = .ok (.if_icmp .eq 97, 3) := by decide +kernel
theorem dL_law_664 : decode cL_law 664 = .ok (.iconst 0, 1) := by decide +kernel
theorem dL_law_665 : decode cL_law 665 = .ok (.ireturn, 1) := by decide +kernel
theorem dL_law_666 : decode cL_law 666 = .ok (.aload_n 1, 1) := by decide +kernel
theorem dL_law_667 : decode cL_law 667 = .ok (.aload_n 0, 1) := by decide +kernel
theorem dL_law_668 : decode cL_law 668 = .ok (.iload_n 3, 1) := by decide +kernel
theorem dL_law_669 : decode cL_law 669 = .ok (.iconst 1, 1) := by decide +kernel
theorem dL_law_670 : decode cL_law 670 = .ok (.iadd, 1) := by decide +kernel
theorem dL_law_671 : decode cL_law 671 = .ok (.iaload, 1) := by decide +kernel
theorem dL_law_672 : decode cL_law 672 = .ok (.invokevirtual 99, 3) := by decide +kernel
theorem dL_law_675 : decode cL_law 675 = .ok (.aload_n 2, 1) := by decide +kernel
theorem dL_law_676 : decode cL_law 676 = .ok (.aload_n 0, 1) := by decide +kernel
theorem dL_law_677 : decode cL_law 677 = .ok (.iload_n 3, 1) := by decide +kernel
theorem dL_law_678 : decode cL_law 678 = .ok (.iconst 1, 1) := by decide +kernel
theorem dL_law_679 : decode cL_law 679 = .ok (.iadd, 1) := by decide +kernel
theorem dL_law_680 : decode cL_law 680 = .ok (.iaload, 1) := by decide +kernel
theorem dL_law_681 : decode cL_law 681 = .ok (.invokevirtual 102, 3) := by decide +kernel
theorem dL_law_684 : decode cL_law 684 = .ok (.if_icmp .eq 74, 3) := by decide +kernel
theorem dL_law_687 : decode cL_law 687 = .ok (.iconst 0, 1) := by decide +kernel
theorem dL_law_688 : decode cL_law 688 = .ok (.ireturn, 1) := by decide +kernel
theorem dL_law_689 : decode cL_law 689 = .ok (.aload_n 1, 1) := by decide +kernel
theorem dL_law_690 : decode cL_law 690 = .ok (.invokevirtual 103, 3) := by decide +kernel
theorem dL_law_693 : decode cL_law 693 = .ok (.aload_n 2, 1) := by decide +kernel
theorem dL_law_694 : decode cL_law 694 = .ok (.invokevirtual 106, 3) := by decide +kernel
theorem dL_law_697 : decode cL_law 697 = .ok (.if_icmp .eq 61, 3) := by decide +kernel
theorem dL_law_700 : decode cL_law 700 = .ok (.iconst 0, 1) := by decide +kernel
theorem dL_law_701 : decode cL_law 701 = .ok (.ireturn, 1) := by decide +kernel
theorem dL_law_702 : decode cL_law 702 = .ok (.aload_n 1, 1) := by decide +kernel
theorem dL_law_703 : decode cL_law 703 = .ok (.aload_n 0, 1) := by decide +kernel
theorem dL_law_704 : decode cL_law 704 = .ok (.iload_n 3, 1) := by decide +kernel
theorem dL_law_705 : decode cL_law 705 = .ok (.iconst 1, 1) := by decide +kernel
theorem dL_law_706 : decode cL_law 706 = .ok (.iadd, 1) := by decide +kernel
theorem dL_law_707 : decode cL_law 707 = .ok (.iaload, 1) := by decide +kernel
theorem dL_law_708 : decode cL_law 708 = .ok (.aload_n 0, 1) := by decide +kernel
theorem dL_law_709 : decode cL_law 709 = .ok (.iload_n 3, 1) := by decide +kernel
theorem dL_law_710 : decode cL_law 710 = .ok (.iconst 2, 1) := by decide +kernel
theorem dL_law_711 : decode cL_law 711 = .ok (.iadd, 1) := by decide +kernel
theorem dL_law_712 : decode cL_law 712 = .ok (.iaload, 1) := by decide +kernel
theorem dL_law_713 : decode cL_law 713 = .ok (.invokevirtual 107, 3) := by decide +kernel
theorem dL_law_716 : decode cL_law 716 = .ok (.aload_n 2, 1) := by decide +kernel
theorem dL_law_717 : decode cL_law 717 = .ok (.aload_n 0, 1) := by decide +kernel
theorem dL_law_718 : decode cL_law 718 = .ok (.iload_n 3, 1) := by decide +kernel
theorem dL_law_719 : decode cL_law 719 = .ok (.iconst 1, 1) := by decide +kernel
theorem dL_law_720 : decode cL_law 720 = .ok (.iadd, 1) := by decide +kernel
theorem dL_law_721 : decode cL_law 721 = .ok (.iaload, 1) := by decide +kernel
theorem dL_law_722 : decode cL_law 722 = .ok (.aload_n 0, 1) := by decide +kernel
theorem dL_law_723 : decode cL_law 723 = .ok (.iload_n 3, 1) := by decide +kernel
theorem dL_law_724 : decode cL_law 724 = .ok (.iconst 2, 1) := by decide +kernel
theorem dL_law_725 : decode cL_law 725 = .ok (.iadd, 1) := by decide +kernel
theorem dL_law_726 : decode cL_law 726 = .ok (.iaload, 1) := by decide +kernel
theorem dL_law_727 : decode cL_law 727 = .ok (.invokevirtual 110, 3) := by decide +kernel
theorem dL_law_730 : decode cL_law 730 = .ok (.if_icmp .eq 28, 3) := by decide +kernel
theorem dL_law_733 : decode cL_law 733 = .ok (.iconst 0, 1) := by decide +kernel
theorem dL_law_734 : decode cL_law 734 = .ok (.ireturn, 1) := by decide +kernel
theorem dL_law_735 : decode cL_law 735 = .ok (.aload_n 1, 1) := by decide +kernel
theorem dL_law_736 : decode cL_law 736 = .ok (.aload_n 0, 1) := by decide +kernel
theorem dL_law_737 : decode cL_law 737 = .ok (.iload_n 3, 1) := by decide +kernel
theorem dL_law_738 : decode cL_law 738 = .ok (.iconst 1, 1) := by decide +kernel
theorem dL_law_739 : decode cL_law 739 = .ok (.iadd, 1) := by decide +kernel
theorem dL_law_740 : decode cL_law 740 = .ok (.iaload, 1) := by decide +kernel
theorem dL_law_741 : decode cL_law 741 = .ok (.invokevirtual 111, 3) := by decide +kernel
theorem dL_law_744 : decode cL_law 744 = .ok (.aload_n 2, 1) := by decide +kernel
theorem dL_law_745 : decode cL_law 745 = .ok (.aload_n 0, 1) := by decide +kernel
theorem dL_law_746 : decode cL_law 746 = .ok (.iload_n 3, 1) := by decide +kernel
theorem dL_law_747 : decode cL_law 747 = .ok (.iconst 1, 1) := by decide +kernel
theorem dL_law_748 : decode cL_law 748 = .ok (.iadd, 1) := by decide +kernel
theorem dL_law_749 : decode cL_law 749 = .ok (.iaload, 1) := by decide +kernel
theorem dL_law_750 : decode cL_law 750 = .ok (.invokevirtual 114, 3) := by decide +kernel
theorem dL_law_753 : decode cL_law 753 = .ok (.if_icmp .eq 5, 3) := by decide +kernel
theorem dL_law_756 : decode cL_law 756 = .ok (.iconst 0, 1) := by decide +kernel
theorem dL_law_757 : decode cL_law 757 = .ok (.ireturn, 1) := by decide +kernel
theorem dL_law_758 : decode cL_law 758 = .ok (.iinc 3 5, 3) := by decide +kernel
theorem dL_law_761 : decode cL_law 761 = .ok (.goto (-743), 3) := by decide +kernel
theorem dL_law_764 : decode cL_law 764 = .ok (.iconst 1, 1) := by decide +kernel
theorem dL_law_765 : decode cL_law 765 = .ok (.ireturn, 1) := by decide +kernel
end
section
/-! THE WORLD: cells number 0 .. n-1, cell k at the address ad k holding ce k; rows of the kit in these words -/
abbrev JJ : Type := va_G × ClassId × ClassId × ClassId
abbrev tysJ (J : JJ) : List (ClassId × FieldType) := [(J.2.1, .int), (J.2.2.1, .char), (J.2.2.2, .object RX5)]
def wl (ad : Nat → Nat) (n : Nat) (ce : Nat → va_E) : va_W := (List.range n).map fun k => (ad k, ce k)
theorem wl_len {ad : Nat → Nat} {n : Nat} {ce : Nat → va_E} : (wl ad n ce).length = n := by simp [wl]
theorem wl_get {ad : Nat → Nat} {n k : Nat} {ce : Nat → va_E} (hk : k < n) : (wl ad n ce)[k]? = some (ad k, ce k) := by
  simp [wl, hk]
theorem wl_set {ad : Nat → Nat} {n k : Nat} {ce : Nat → va_E} (hk : k < n) (e : va_E) : (wl ad n ce).set k (ad k, e) = wl ad n (va_up ce k e) := by
  apply List.ext_getElem?
  intro i
  by_cases hi : i < n
  · rw [wl_get hi]
    by_cases hik : i = k
    · subst hik
      rw [List.getElem?_set_self (by rw [wl_len]; exact hi)]
      simp [va_up]
    · rw [List.getElem?_set_ne (Ne.symm hik), wl_get hi]
      simp [va_up, hik]
  · rw [List.getElem?_eq_none (by simp [wl_len]; omega), List.getElem?_eq_none (by simp [wl_len]; omega)]
theorem wl_push {ad : Nat → Nat} {n : Nat} {ce : Nat → va_E} (q : Nat) (e : va_E) : wl ad n ce ++ [(q, e)] = wl (va_up ad n q) (n + 1) (va_up ce n e) := by
  unfold wl
  rw [List.range_succ, List.map_append]
  congr 1
  · apply List.map_congr_left
    intro k hk
    have := List.mem_range.mp hk
    simp [va_up, show ¬ k = n by omega]
  · simp [va_up]
/-- what a method's walk holds of machine and heap -/
def HS (J : JJ) (z : Nat) (ad : Nat → Nat) (n : Nat) (ce : Nat → va_E) (s : State) (H : Heap) (locs : List Loc) : Prop :=
  va_K J.1 vwCl (tysJ J) s ∧ va_P J.1 vwCl (wl ad n ce) H ∧ va_D (fun q => z ≤ q) (wl ad n ce) ∧ va_S (fun q => z ≤ q) s.heap H locs ∧ z ≤ s.heap.size
/-- the same at a state, ahead of a call or behind it -/
def HU (J : JJ) (z : Nat) (ad : Nat → Nat) (n : Nat) (ce : Nat → va_E) (U : State) : Prop :=
  va_K J.1 vwCl (tysJ J) U ∧ va_P J.1 vwCl (wl ad n ce) U.heap ∧ va_D (fun q => z ≤ q) (wl ad n ce) ∧ z ≤ U.heap.size
/-- the machine's facts of a method of the class own -/
def Cx (p : Program) (c : Code) (cc : ByteArray) (s : State) (m : MethodId) (own : String) (args : Array Value) (nL : Nat) : Prop :=
  p.tables.exec = Jvm.exec ∧ c.code = cc ∧ c.maxLocals = nL ∧ s.vm.findClass own = some m.cls ∧ ∀ w ∈ ws0, w.before args s = true
def rmD (d mc ms : Nat) : Room := { frames := d, cells := mc, slots := ms, locals := 30 * d }
abbrev wsY (y : MethodName) (cc : ByteArray) (mx : Nat) (ret : Option FieldType) : List Cond := .code y cc mx ret :: ws0
section BASE
variable {p : Program} {l : Launch} {e : Env} {R : Room} {s : State} {m : MethodId} {args : Array Value} {below : List Frame} {meth : Method} {c : Code} {H : Heap} {locs : List Loc} {cells slots : Nat} {Q : State → Prop}
variable {cc : ByteArray} {pc : Nat} {ls : Array Slot} {rest : List Value} {J : JJ} {z n nL : Nat} {ad : Nat → Nat} {ce : Nat → va_E} {own : String}
theorem rw_get (X : Cx p c cc s m own args nL) (h : HS J z ad n ce s H locs) {C : String} {T : u_T} {N ci index : Nat} (hin : ∀ w ∈ u_ws C T N, w ∈ ws0) (hc : vwCl[ci]? = some (C, T, N)) (j : Nat) (hj : j < N) (hlink : Cond.fieldLink own index (T j).1 (T j).2.1 (T j).2.2.1 ∈ ws0) (k : Nat) (hk : k < n) {fs : List Value} (he : ce k = .inr (ci, fs)) {v : Value} (hv : fs[j]? = some v) (hdg : decode cc pc = .ok (.getfield index, 3))
    (kk : W p l e R s m args below meth c H locs cells slots Q (F0 m (pc + 3) ls (v :: rest))) : W p l e R s m args below meth c H locs cells slots Q (F0 m pc ls (.ref (ad k) :: rest)) := by
  obtain ⟨hx, hb, hml, hown, hts⟩ := X
  obtain ⟨hK, hP, hD, hS, hz⟩ := h
  exact va_get hx hb hts hin hown hK hP k (by rw [wl_get hk, he]) hc j hj (hts _ hlink) (fun _ h9 => h9) hv hdg kk
theorem rw_put (X : Cx p c cc s m own args nL) (h : HS J z ad n ce s H locs) {C : String} {T : u_T} {N ci index : Nat} (hin : ∀ w ∈ u_ws C T N, w ∈ ws0) (ty0 : Nat → FieldType) (hty : ∀ k, k < N → parseFieldDescriptor (T k).2.2.1 = some (ty0 k)) (hnm : ∀ a, a < N → ∀ b, b < N → a ≠ b → (T a).2.1 ≠ (T b).2.1) (hc : vwCl[ci]? = some (C, T, N)) (j : Nat) (hj : j < N) (hlink : Cond.fieldLink own index (T j).1 (T j).2.1 (T j).2.2.1 ∈ ws0) (hfin : (T j).2.2.2 = false) (k : Nat) (hk : k < n) {fs : List Value} (he : ce k = .inr (ci, fs)) (hl : j < fs.length) {v : Value} (hn : narrow (ty0 j) v = v) (hfit : fits (ty0 j) v = true) (hdg : decode cc pc = .ok (.putfield index, 3))
    (kk : ∀ (H1 : Heap) (locs1 : List Loc), HS J z ad n (va_up ce k (.inr (ci, fs.set j v))) s H1 locs1 → W p l e R s m args below meth c H1 locs1 cells slots Q (F0 m (pc + 3) ls rest)) : W p l e R s m args below meth c H locs cells slots Q (F0 m pc ls (v :: .ref (ad k) :: rest)) := by
  obtain ⟨hx, hb, hml, hown, hts⟩ := X
  obtain ⟨hK, hP, hD, hS, hz⟩ := h
  refine va_put hx hb hts hin ty0 hty hnm hown hK hP hD hS k (by rw [wl_get hk, he]) hc j hj (hts _ hlink) (fun _ h9 => h9) hfin (hty j hj) hn hfit hl hdg (fun H1 locs1 hP1 hD1 hS1 => ?_)
  rw [wl_set hk] at hP1 hD1
  exact kk H1 locs1 ⟨hK, hP1, hD1, hS1, hz⟩
theorem rw_putF (X : Cx p c cc s m own args nL) (hinit : meth.name = "<init>") (h : HS J z ad n ce s H locs) {C : String} {T : u_T} {N ci index : Nat} (hin : ∀ w ∈ u_ws C T N, w ∈ ws0) (ty0 : Nat → FieldType) (hty : ∀ k, k < N → parseFieldDescriptor (T k).2.2.1 = some (ty0 k)) (hnm : ∀ a, a < N → ∀ b, b < N → a ≠ b → (T a).2.1 ≠ (T b).2.1) (hc : vwCl[ci]? = some (C, T, N)) (j : Nat) (hj : j < N) (hlink : Cond.fieldLink own index (T j).1 (T j).2.1 (T j).2.2.1 ∈ ws0) (hfin : (T j).2.2.2 = true) (hdecl : (T j).1 = own) (k : Nat) (hk : k < n) {fs : List Value} (he : ce k = .inr (ci, fs)) (hl : j < fs.length) {v : Value} (hn : narrow (ty0 j) v = v) (hfit : fits (ty0 j) v = true) (hdg : decode cc pc = .ok (.putfield index, 3))
    (kk : ∀ (H1 : Heap) (locs1 : List Loc), HS J z ad n (va_up ce k (.inr (ci, fs.set j v))) s H1 locs1 → W p l e R s m args below meth c H1 locs1 cells slots Q (F0 m (pc + 3) ls rest)) : W p l e R s m args below meth c H locs cells slots Q (F0 m pc ls (v :: .ref (ad k) :: rest)) := by
  obtain ⟨hx, hb, hml, hown, hts⟩ := X
  obtain ⟨hK, hP, hD, hS, hz⟩ := h
  refine va_putF hx hb hts hin ty0 hty hnm hown hK hP hD hS k (by rw [wl_get hk, he]) hc j hj (hts _ hlink) (fun _ h9 => h9) hfin hinit hdecl (hty j hj) hn hfit hl hdg (fun H1 locs1 hP1 hD1 hS1 => ?_)
  rw [wl_set hk] at hP1 hD1
  exact kk H1 locs1 ⟨hK, hP1, hD1, hS1, hz⟩
theorem rw_ild (X : Cx p c cc s m own args nL) (h : HS J z ad n ce s H locs) (k : Nat) (hk : k < n) {N : Nat} {f : Nat → Int32} (he : ce k = .inl (J.2.1, N, .inl f)) {i : Int32} (j : Nat) (hi : i = nI j) (hj : j < N) (hN : N < 2 ^ 31) (hdg : decode cc pc = .ok (.iaload, 1))
    (kk : W p l e R s m args below meth c H locs cells slots Q (F0 m (pc + 1) ls (.int (f j) :: rest))) : W p l e R s m args below meth c H locs cells slots Q (F0 m pc ls (.int i :: .ref (ad k) :: rest)) := by
  obtain ⟨hx, hb, hml, hown, hts⟩ := X
  obtain ⟨hK, hP, hD, hS, hz⟩ := h
  subst hi
  refine va_iald hx hb hK hP k 0 (by rw [wl_get hk, he]) rfl (vp_in_nI hj hN) hdg ?_
  rw [nI_clamp (Nat.lt_trans hj hN)]
  exact kk
theorem rw_cld (X : Cx p c cc s m own args nL) (h : HS J z ad n ce s H locs) (k : Nat) (hk : k < n) {N : Nat} {f : Nat → Int32} (he : ce k = .inl (J.2.2.1, N, .inl f)) {i : Int32} (j : Nat) (hi : i = nI j) (hj : j < N) (hN : N < 2 ^ 31) (hdg : decode cc pc = .ok (.caload, 1))
    (kk : W p l e R s m args below meth c H locs cells slots Q (F0 m (pc + 1) ls (.int (f j) :: rest))) : W p l e R s m args below meth c H locs cells slots Q (F0 m pc ls (.int i :: .ref (ad k) :: rest)) := by
  obtain ⟨hx, hb, hml, hown, hts⟩ := X
  obtain ⟨hK, hP, hD, hS, hz⟩ := h
  subst hi
  refine va_cald hx hb hK hP k 1 (by rw [wl_get hk, he]) rfl (vp_in_nI hj hN) hdg ?_
  rw [nI_clamp (Nat.lt_trans hj hN)]
  exact kk
theorem rw_ist (X : Cx p c cc s m own args nL) (h : HS J z ad n ce s H locs) (k : Nat) (hk : k < n) {N : Nat} {f : Nat → Int32} (he : ce k = .inl (J.2.1, N, .inl f)) {i x : Int32} (j : Nat) (hi : i = nI j) (hj : j < N) (hN : N < 2 ^ 31) (hdg : decode cc pc = .ok (.iastore, 1))
    (kk : ∀ (H1 : Heap) (locs1 : List Loc), HS J z ad n (va_up ce k (.inl (J.2.1, N, .inl (upd f j x)))) s H1 locs1 → W p l e R s m args below meth c H1 locs1 cells slots Q (F0 m (pc + 1) ls rest)) : W p l e R s m args below meth c H locs cells slots Q (F0 m pc ls (.int x :: .int i :: .ref (ad k) :: rest)) := by
  obtain ⟨hx, hb, hml, hown, hts⟩ := X
  obtain ⟨hK, hP, hD, hS, hz⟩ := h
  subst hi
  refine va_iast hx hb hK hP hD hS k 0 (by rw [wl_get hk, he]) rfl (vp_in_nI hj hN) hdg (fun H1 locs1 hP1 hD1 hS1 => ?_)
  rw [wl_set hk, nI_clamp (Nat.lt_trans hj hN)] at hP1 hD1
  exact kk H1 locs1 ⟨hK, hP1, hD1, hS1, hz⟩
theorem rw_cst (X : Cx p c cc s m own args nL) (h : HS J z ad n ce s H locs) (k : Nat) (hk : k < n) {N : Nat} {f : Nat → Int32} (he : ce k = .inl (J.2.2.1, N, .inl f)) {i x : Int32} (j : Nat) (hi : i = nI j) (hj : j < N) (hN : N < 2 ^ 31) (hdg : decode cc pc = .ok (.castore, 1))
    (kk : ∀ (H1 : Heap) (locs1 : List Loc), HS J z ad n (va_up ce k (.inl (J.2.2.1, N, .inl (upd f j (vp_nar .char x))))) s H1 locs1 → W p l e R s m args below meth c H1 locs1 cells slots Q (F0 m (pc + 1) ls rest)) : W p l e R s m args below meth c H locs cells slots Q (F0 m pc ls (.int x :: .int i :: .ref (ad k) :: rest)) := by
  obtain ⟨hx, hb, hml, hown, hts⟩ := X
  obtain ⟨hK, hP, hD, hS, hz⟩ := h
  subst hi
  refine va_cast hx hb hK hP hD hS k 1 (by rw [wl_get hk, he]) rfl (vp_in_nI hj hN) hdg (fun H1 locs1 hP1 hD1 hS1 => ?_)
  rw [wl_set hk, nI_clamp (Nat.lt_trans hj hN)] at hP1 hD1
  exact kk H1 locs1 ⟨hK, hP1, hD1, hS1, hz⟩
theorem rw_ald (X : Cx p c cc s m own args nL) (h : HS J z ad n ce s H locs) (k : Nat) (hk : k < n) {N : Nat} {f : Nat → Option Nat} (he : ce k = .inl (J.2.2.2, N, .inr (.inr (.inr (.inr f))))) {i : Int32} (j : Nat) (hi : i = nI j) (hj : j < N) (hN : N < 2 ^ 31) {a : Nat} (hf : f j = some a) (hdg : decode cc pc = .ok (.aaload, 1))
    (kk : W p l e R s m args below meth c H locs cells slots Q (F0 m (pc + 1) ls (.ref a :: rest))) : W p l e R s m args below meth c H locs cells slots Q (F0 m pc ls (.int i :: .ref (ad k) :: rest)) := by
  obtain ⟨hx, hb, hml, hown, hts⟩ := X
  obtain ⟨hK, hP, hD, hS, hz⟩ := h
  subst hi
  refine va_aldq hx hb hK hP k 2 (C := RX5) (by rw [wl_get hk, he]) rfl (vp_in_nI hj hN) hdg ?_
  rw [nI_clamp (Nat.lt_trans hj hN), hf]
  exact kk
/-- the array copy of ints between two arrays of the world -/
theorem rw_cpy (X : Cx p c cc s m own args nL) (hls : ls.size = nL) (h : HS J z ad n ce s H locs) {index : Nat} (hlink : Cond.methodLink own index arraycopyName ∈ ws0) (hnat : Cond.native arraycopyName ∈ ws0) (hstat : Cond.static arraycopyName ∈ ws0) (hini : Cond.initialized "java/lang/System" ∈ ws0) (k0 k1 : Nat) (hk0 : k0 < n) (hk1 : k1 < n) {N : Nat} {f g : Nat → Int32} (he0 : ce k0 = .inl (J.2.1, N, .inl f)) (he1 : ce k1 = .inl (J.2.1, N, .inl g)) {x : Int32} (hx : x = nI N) (hN : N < 2 ^ 31) (hframes : 1 ≤ R.frames) (hlocals : (rest.map fun v => v.category).sum + (nativeFrameWords "java/lang/System" "arraycopy" 5 + 11) ≤ R.locals) (hdg : decode cc pc = .ok (.invokestatic index, 3))
    (kk : ∀ (H1 : Heap) (locs1 : List Loc), HS J z ad n (va_up ce k1 (.inl (J.2.1, N, .inl (fun j => if j < N then f j else g j)))) s H1 locs1 → W p l e R s m args below meth c H1 locs1 cells slots Q (F0 m (pc + 3) ls rest)) : W p l e R s m args below meth c H locs cells slots Q (F0 m pc ls (.int x :: .int 0 :: .ref (ad k1) :: .int 0 :: .ref (ad k0) :: rest)) := by
  obtain ⟨hx0, hb, hml, hown, hts⟩ := X
  obtain ⟨hK, hP, hD, hS, hz⟩ := h
  subst hx
  have e0 : (0 : Int32).toNatClampNeg = 0 := rfl
  refine va_copyi hx0 hb (hml.trans hls.symm) hown (hts _ hlink) (hts _ hnat) (hts _ hstat) (hts _ hini) hK hP hD hS k0 k1 0 0 (ty := .int) (by rw [wl_get hk0, he0]) (by rw [wl_get hk1, he1]) rfl rfl rfl (by decide) (by decide) (nI_pos hN) (by rw [nI_clamp hN, e0]; omega) (by rw [nI_clamp hN, e0]; omega) (fun i _ => rfl) hframes hlocals hdg (fun H1 locs1 hP1 hD1 hS1 => ?_)
  rw [wl_set hk1, nI_clamp hN, e0] at hP1 hD1
  have e1 : va_cpy f g 0 0 N = (fun j => if j < N then f j else g j) := by
    funext j
    simp [va_cpy]
  rw [e1] at hP1 hD1
  exact kk H1 locs1 ⟨hK, hP1, hD1, hS1, hz⟩
end BASE
end
section
/-! THE SHAPE: 215 cells. 0 the class's object; 1.., 26.., 51.., 76.. its four states (25 cells each: the state, its swarm with five rows, its laws with three, its petitions with six, its refusals with four, settings, verdicts); 101 the history, 102 its ring, 103.., 128.., 153.., 178.. the ring's states; 203 the text with six rows; 210 the reference's object with s, text, order, reasons. All that changes is ints: G k j, the j-th of cell k. -/
abbrev GG : Type := Nat → Nat → Int32
def stC (J : JJ) (ad : Nat → Nat) (b c : Nat) (g : Nat → Int32) : va_E := match c with
  | 0 => .inr (5, [.ref (ad (b + 1)), .ref (ad (b + 7)), .ref (ad (b + 11)), .ref (ad (b + 18)), .ref (ad (b + 23)), .int (g 5), .int (g 6), .int (g 7), .int (g 8), .ref (ad (b + 24))])
  | 1 => .inr (6, [.int (g 0), .ref (ad (b + 2)), .ref (ad (b + 3)), .ref (ad (b + 4)), .ref (ad (b + 5)), .ref (ad (b + 6))])
  | 7 => .inr (1, [.ref (ad (b + 8)), .ref (ad (b + 9)), .ref (ad (b + 10))])
  | 8 => .inl (J.2.1, 140, .inl g)
  | 9 => .inl (J.2.1, 140, .inl g)
  | 10 => .inl (J.2.1, 140, .inl g)
  | 11 => .inr (3, [.int (g 0), .ref (ad (b + 12)), .ref (ad (b + 13)), .ref (ad (b + 14)), .ref (ad (b + 15)), .ref (ad (b + 16)), .ref (ad (b + 17))])
  | 18 => .inr (4, [.int (g 0), .ref (ad (b + 19)), .ref (ad (b + 20)), .ref (ad (b + 21)), .ref (ad (b + 22))])
  | 23 => .inl (J.2.1, 2, .inl g)
  | _ => .inl (J.2.1, 12, .inl g)
def ringF (ad : Nat → Nat) : Nat → Option Nat := va_up (va_up (va_up (va_up (fun _ => none) 0 (some (ad 103))) 1 (some (ad 128))) 2 (some (ad 153))) 3 (some (ad 178))
def txC (J : JJ) (ad : Nat → Nat) (c : Nat) (g : Nat → Int32) : va_E := match c with
  | 0 => .inr (2, [.ref (ad 204), .int (g 1), .int (g 2), .int (g 3), .ref (ad 205), .ref (ad 206), .ref (ad 207), .ref (ad 208), .ref (ad 209)])
  | 1 => .inl (J.2.2.1, 60, .inl g)
  | 7 => .inr (8, [.ref (ad 211), .int (g 1), .int (g 2), .ref (ad 212), .int (g 4), .int (g 5), .int (g 6), .ref (ad 213), .ref (ad 214), .int (g 9), .int (g 10), .int (g 11), .int (g 12), .int (g 13), .int (g 14)])
  | 8 => .inl (J.2.1, 4896, .inl g)
  | 9 => .inl (J.2.1, 60, .inl g)
  | 10 => .inl (J.2.1, 12, .inl g)
  | 11 => .inl (J.2.1, 12, .inl g)
  | _ => .inl (J.2.1, 20, .inl g)
def shC (J : JJ) (ad : Nat → Nat) (k : Nat) (g : Nat → Int32) : va_E :=
  if k = 0 then .inr (7, [.ref (ad 1), .ref (ad 26), .ref (ad 51), .ref (ad 76), .int (g 4), .ref (ad 101), .ref (ad 203), .int (g 7), .int (g 8)])
  else if k < 101 then stC J ad (1 + 25 * ((k - 1) / 25)) ((k - 1) % 25) g
  else if k = 101 then .inr (0, [.ref (ad 102), .int (g 1), .int (g 2)])
  else if k = 102 then .inl (J.2.2.2, 4, .inr (.inr (.inr (.inr (ringF ad)))))
  else if k < 203 then stC J ad (103 + 25 * ((k - 103) / 25)) ((k - 103) % 25) g
  else txC J ad (k - 203) g
def shp (J : JJ) (ad : Nat → Nat) (G : GG) (k : Nat) : va_E := shC J ad k (G k)
def u1 (G : GG) (k : Nat) (g : Nat → Int32) : GG := fun a => if a = k then g else G a
theorem u1_s (G : GG) (k : Nat) (g : Nat → Int32) : u1 G k g k = g := by simp [u1]
theorem u1_n {G : GG} {k a : Nat} {g : Nat → Int32} (h : a ≠ k) : u1 G k g a = G a := by simp [u1, h]
theorem shp_u {J : JJ} {ad : Nat → Nat} {G : GG} {k : Nat} {e : va_E} {g : Nat → Int32} (he : e = shC J ad k g) : va_up (shp J ad G) k e = shp J ad (u1 G k g) := by
  funext a
  by_cases h : a = k
  · subst h
    simp [va_up, shp, u1, he]
  · simp [va_up, shp, u1, h]
/-- the first cell of a state -/
def IsB (b : Nat) : Prop := (b < 101 ∧ b % 25 = 1) ∨ (103 ≤ b ∧ b < 203 ∧ b % 25 = 3)
theorem IsB.lt {b c : Nat} (h : IsB b) (hc : c < 25) : b + c < 215 := by unfold IsB at h; omega
theorem IsB.sh {b c : Nat} (h : IsB b) (hc : c < 25) (J : JJ) (ad : Nat → Nat) (g : Nat → Int32) : shC J ad (b + c) g = stC J ad b c g := by
  unfold shC
  rcases h with ⟨h1, h2⟩ | ⟨h1, h2, h3⟩
  · rw [if_neg (by omega), if_pos (by omega), show 1 + 25 * ((b + c - 1) / 25) = b by omega, show (b + c - 1) % 25 = c by omega]
  · rw [if_neg (by omega), if_neg (by omega), if_neg (by omega), if_neg (by omega), if_pos (by omega), show 103 + 25 * ((b + c - 103) / 25) = b by omega, show (b + c - 103) % 25 = c by omega]
theorem IsB.at {b c : Nat} (h : IsB b) (hc : c < 25) (J : JJ) (ad : Nat → Nat) (G : GG) : shp J ad G (b + c) = stC J ad b c (G (b + c)) := h.sh hc J ad _
theorem isB_1 : IsB 1 := Or.inl ⟨by decide, by decide⟩
theorem isB_26 : IsB 26 := Or.inl ⟨by decide, by decide⟩
theorem isB_51 : IsB 51 := Or.inl ⟨by decide, by decide⟩
theorem isB_76 : IsB 76 := Or.inl ⟨by decide, by decide⟩
theorem isB_103 : IsB 103 := Or.inr ⟨by decide, by decide, by decide⟩
theorem isB_128 : IsB 128 := Or.inr ⟨by decide, by decide, by decide⟩
theorem isB_153 : IsB 153 := Or.inr ⟨by decide, by decide, by decide⟩
theorem isB_178 : IsB 178 := Or.inr ⟨by decide, by decide, by decide⟩
abbrev HG (J : JJ) (z : Nat) (ad : Nat → Nat) (s : State) (G : GG) (H : Heap) (locs : List Loc) : Prop := HS J z ad 215 (shp J ad G) s H locs
abbrev HV (J : JJ) (z : Nat) (ad : Nat → Nat) (G : GG) (U : State) : Prop := HU J z ad 215 (shp J ad G) U
/-- contracts: a method that answers an int (or boolean), one that answers nothing -/
def MI (l : Launch) (J : JJ) (z : Nat) (ad : Nat → Nat) (y : MethodName) (cc : ByteArray) (mx : Nat) (ty : FieldType) (d : Nat) (av : List Value) (G : GG) (post : Int32 → GG → Prop) : Prop :=
  Met l y (wsY y cc mx (some ty)) (rmD d 0 0) (va_Pc av (HV J z ad G)) (va_Qi post (HV J z ad) (fun q => z ≤ q)) 0 0 (fun q => z ≤ q)
def MV (l : Launch) (J : JJ) (z : Nat) (ad : Nat → Nat) (y : MethodName) (cc : ByteArray) (mx : Nat) (d : Nat) (av : List Value) (G : GG) (post : GG → Prop) : Prop :=
  Met l y (wsY y cc mx none) (rmD d 0 0) (va_Pc av (HV J z ad G)) (va_Qv post (HV J z ad) (fun q => z ≤ q)) 0 0 (fun q => z ≤ q)
def QI (J : JJ) (z : Nat) (ad : Nat → Nat) (below : List Frame) (args : Array Value) (s : State) (post : Int32 → GG → Prop) : State → Prop := MQ below (va_Qi post (HV J z ad) (fun q => z ≤ q)) args s 0 0 (fun q => z ≤ q)
def QV (J : JJ) (z : Nat) (ad : Nat → Nat) (below : List Frame) (args : Array Value) (s : State) (post : GG → Prop) : State → Prop := MQ below (va_Qv post (HV J z ad) (fun q => z ≤ q)) args s 0 0 (fun q => z ≤ q)
section SHAPE
variable {p : Program} {l : Launch} {e : Env} {R : Room} {s : State} {m : MethodId} {args : Array Value} {below : List Frame} {meth : Method} {c : Code} {H : Heap} {locs : List Loc} {cells slots : Nat} {Q : State → Prop}
variable {cc : ByteArray} {pc : Nat} {ls : Array Slot} {rest : List Value} {J : JJ} {z nL : Nat} {ad : Nat → Nat} {G : GG} {own : String}
theorem HV.blind {av : List Value} {n : Nat} {ce : Nat → va_E} : FrameBlind (va_Pc av (HU J z ad n ce)) := fun a U g mk q => by
  obtain ⟨q0, q1, q2, q3, q4⟩ := q
  exact ⟨q0, va_K.moved (u := U) (U := U.calling g mk a) (Vm.Alike.refl U.vm) q1, q2, q3, q4⟩
theorem HS.toU {n : Nat} {ce : Nat → va_E} (h : HS J z ad n ce s H locs) {U : State} (hU : U.heap = H) (hW : s.vm.Alike U.vm) : HU J z ad n ce U := by
  obtain ⟨hK, hP, hD, hS, hz⟩ := h
  exact ⟨va_K.moved hW hK, by rw [hU]; exact hP, hD, by rw [hU]; exact Nat.le_trans hz hS.1⟩
theorem HS.ofU {n : Nat} {ce : Nat → va_E} {t : State} {H1 : Heap} {locs1 : List Loc} (h : HU J z ad n ce t) (ht : t.heap = H1) (hvm : s.vm.Alike t.vm) (hS : va_S (fun q => z ≤ q) s.heap H1 locs1) (hz : z ≤ s.heap.size) : HS J z ad n ce s H1 locs1 := by
  obtain ⟨hK, hP, hD, -⟩ := h
  exact ⟨va_K.moved hvm.symm hK, by rw [← ht]; exact hP, hD, hS, hz⟩
theorem HS.of0 {n : Nat} {ce : Nat → va_E} (h : HU J z ad n ce s) : HS J z ad n ce s s.heap [] := by
  obtain ⟨hK, hP, hD, hz⟩ := h
  exact ⟨hK, hP, hD, va_S.rf, hz⟩
/-- a contract out of a walk -/
theorem MI.walk {y : MethodName} {mx : Nat} {ty : FieldType} {d : Nat} {av : List Value} {post : Int32 → GG → Prop} (hy : plainName y.cls = true) (hlen : (lg_sl av).length ≤ mx)
    (body : ∀ (p : Program) (e : Env) (s : State) (m : MethodId) (below : List Frame) (meth : Method) (c : Code) (ls : Array Slot), Cx p c cc s m y.cls av.toArray mx → meth.sig.returnType = some ty → meth.locks = false → HG J z ad s G s.heap [] → lv_has ls mx (lv_args 0 av) →
      W p l e (rmD d 0 0) s m av.toArray below meth c s.heap [] 0 0 (QI J z ad below av.toArray s post) (F0 m 0 ls [])) : MI l J z ad y cc mx ty d av G post := by
  refine Met.ofW (cc := cc) (maxL := mx) (ret := some ty) hy rfl ?_
  intro p e s m args below meth c s₁ B hml hv
  obtain ⟨rfl, hU⟩ := hv
  have hts := atoms_spec (ws := wsY y cc mx (some ty)) B.pre
  have hl := lv_entry av (n := mx) hlen
  rw [lg_entry_eq]
  exact body p e s m below meth c _ ⟨B.exec, B.bytes, hml, findClass_of_methodNamed B.named, fun w hw => hts w (List.mem_cons_of_mem _ hw)⟩ B.returns B.notSynchronized (HS.of0 hU) hl
theorem MV.walk {y : MethodName} {mx : Nat} {d : Nat} {av : List Value} {post : GG → Prop} (hy : plainName y.cls = true) (hlen : (lg_sl av).length ≤ mx)
    (body : ∀ (p : Program) (e : Env) (s : State) (m : MethodId) (below : List Frame) (meth : Method) (c : Code) (ls : Array Slot), Cx p c cc s m y.cls av.toArray mx → meth.sig.returnType = none → meth.locks = false → HG J z ad s G s.heap [] → lv_has ls mx (lv_args 0 av) →
      W p l e (rmD d 0 0) s m av.toArray below meth c s.heap [] 0 0 (QV J z ad below av.toArray s post) (F0 m 0 ls [])) : MV l J z ad y cc mx d av G post := by
  refine Met.ofW (cc := cc) (maxL := mx) (ret := none) hy rfl ?_
  intro p e s m args below meth c s₁ B hml hv
  obtain ⟨rfl, hU⟩ := hv
  have hts := atoms_spec (ws := wsY y cc mx none) B.pre
  have hl := lv_entry av (n := mx) hlen
  rw [lg_entry_eq]
  exact body p e s m below meth c _ ⟨B.exec, B.bytes, hml, findClass_of_methodNamed B.named, fun w hw => hts w (List.mem_cons_of_mem _ hw)⟩ B.returns B.notSynchronized (HS.of0 hU) hl
/-- the ends -/
theorem rg_ret (X : Cx p c cc s m own args nL) (hr : meth.sig.returnType = some .int) (hlk : meth.locks = false) (h : HG J z ad s G H locs) {v : Int32} {post : Int32 → GG → Prop} (hp : post v G) (hdg : decode cc pc = .ok (.ireturn, 1)) : W p l e R s m args below meth c H locs 0 0 (QI J z ad below args s post) (F0 m pc ls [.int v]) :=
  W.iret X.1 X.2.1 hr (fun t ht hW => ⟨⟨v, G, rfl, hp, h.toU ht hW.alike⟩, h.2.2.2.1.F ht⟩) h.2.2.2.1.2.2 hdg hlk
theorem rg_zret (X : Cx p c cc s m own args nL) (hr : meth.sig.returnType = some .boolean) (hlk : meth.locks = false) (h : HG J z ad s G H locs) {v : Int32} {post : Int32 → GG → Prop} (hv : narrow .boolean (.int v) = .int v) (hp : post v G) (hdg : decode cc pc = .ok (.ireturn, 1)) : W p l e R s m args below meth c H locs 0 0 (QI J z ad below args s post) (F0 m pc ls [.int v]) :=
  W.zret X.1 X.2.1 hr hv (fun t ht hW => ⟨⟨v, G, rfl, hp, h.toU ht hW.alike⟩, h.2.2.2.1.F ht⟩) h.2.2.2.1.2.2 hdg hlk
theorem rg_vret (X : Cx p c cc s m own args nL) (hr : meth.sig.returnType = none) (hlk : meth.locks = false) (h : HG J z ad s G H locs) {post : GG → Prop} (hp : post G) (hdg : decode cc pc = .ok (.return_, 1)) : W p l e R s m args below meth c H locs 0 0 (QV J z ad below args s post) (F0 m pc ls []) :=
  W.vret X.1 X.2.1 hr (fun t ht hW => ⟨⟨G, rfl, hp, h.toU ht hW.alike⟩, h.2.2.2.1.F ht⟩) h.2.2.2.1.2.2 hdg hlk
/-- the calls -/
theorem rg_civ (X : Cx p c cc s m own args nL) (hl : ls.size = nL) (h : HG J z ad s G H locs) {y : MethodName} {bytes : ByteArray} {mx : Nat} {ty : FieldType} {d k : Nat} {As : List Value} {post : Int32 → GG → Prop} (hM : MI l J z ad y bytes mx ty d (.ref (ad k) :: As) G post) {index : Nat} (w1 : Cond.methodLink own index y ∈ ws0) (w2 : Cond.instanceMethod y ∈ ws0) (w3 : Cond.selects y.cls y y ∈ ws0) (w4 : Cond.initialized y.cls ∈ ws0) (w5 : Cond.code y bytes mx (some ty) ∈ ws0)
    (hd : y.cls = y.cls ∧ y.cls ≠ "java/lang/invoke/MethodHandle" ∧ y.cls ≠ "java/lang/invoke/VarHandle" ∧ (parseMethodDescriptor y.desc).map (fun d => d.parameters.length) = some As.length) (hk : k < 215) {ci : Nat} {fs : List Value} {q : vw_C} (he : shC J ad k (G k) = .inr (ci, fs)) (hc : vwCl[ci]? = some q) (hq : q.1 = y.cls) (hR : d + 1 ≤ R.frames ∧ 8 + (mx + 11) + 30 * d ≤ R.locals) (hf : cells + 0 ≤ R.cells ∧ slots + 0 ≤ R.slots) {st : List Value} (hst : st = As.reverse ++ .ref (ad k) :: rest) (hrest : (rest.map fun v => v.category).sum ≤ 8) (hdg : decode cc pc = .ok (.invokevirtual index, 3))
    (kk : ∀ (r : Int32) (G1 : GG) (H1 : Heap) (locs1 : List Loc), post r G1 → HG J z ad s G1 H1 locs1 → W p l e R s m args below meth c H1 locs1 cells slots Q (F0 m (pc + 3) ls (.int r :: rest))) : W p l e R s m args below meth c H locs cells slots Q (F0 m pc ls st) := by
  have hg : GoodIn ws0 (wsV own index y.cls y (wsY y bytes mx (some ty))) := by
    intro w hw
    have hin : w ∈ ws0 := by
      simp only [wsV, wsY, List.mem_append, List.mem_cons, List.not_mem_nil, or_false] at hw
      rcases hw with (rfl | rfl | rfl | rfl) | rfl | hw
      · exact w1
      · exact w2
      · exact w3
      · exact w4
      · exact w5
      · exact hw
    exact ws0_self w hin
  have hrecv : ∃ cell : Cell, H[ad k]? = some cell ∧ cell.vm.isStatics = false ∧ s.vm.findClass y.cls = some cell.cls := by
    have := va_recv (q0 := k) h.1 h.2.1 hc (by rw [wl_get hk]; exact congrArg (fun e => some (ad k, e)) he)
    rw [hq] at this
    exact this
  refine va_calli (st0 := st) (va_runV (As := As) (rest := rest) X hM (cwV As.length X.2.2.2.2 hg rfl rfl rfl hd hR) ⟨HV.blind, hrecv, fun U hU hW => ⟨rfl, h.toU hU hW.alike⟩⟩ rfl rfl hl hst (lv_room hrest) hdg hf) h.2.2.2.1 (fun _ _ h => h) (fun _ h => h) (fun r u t H1 locs1 ht hvm hp hB _ _ hS => ?_)
  exact kk r u H1 locs1 hp (HS.ofU hB ht hvm hS h.2.2.2.2)
theorem rg_cvv (X : Cx p c cc s m own args nL) (hl : ls.size = nL) (h : HG J z ad s G H locs) {y : MethodName} {bytes : ByteArray} {mx : Nat} {d k : Nat} {As : List Value} {post : GG → Prop} (hM : MV l J z ad y bytes mx d (.ref (ad k) :: As) G post) {index : Nat} (w1 : Cond.methodLink own index y ∈ ws0) (w2 : Cond.instanceMethod y ∈ ws0) (w3 : Cond.selects y.cls y y ∈ ws0) (w4 : Cond.initialized y.cls ∈ ws0) (w5 : Cond.code y bytes mx none ∈ ws0)
    (hd : y.cls = y.cls ∧ y.cls ≠ "java/lang/invoke/MethodHandle" ∧ y.cls ≠ "java/lang/invoke/VarHandle" ∧ (parseMethodDescriptor y.desc).map (fun d => d.parameters.length) = some As.length) (hk : k < 215) {ci : Nat} {fs : List Value} {q : vw_C} (he : shC J ad k (G k) = .inr (ci, fs)) (hc : vwCl[ci]? = some q) (hq : q.1 = y.cls) (hR : d + 1 ≤ R.frames ∧ 8 + (mx + 11) + 30 * d ≤ R.locals) (hf : cells + 0 ≤ R.cells ∧ slots + 0 ≤ R.slots) {st : List Value} (hst : st = As.reverse ++ .ref (ad k) :: rest) (hrest : (rest.map fun v => v.category).sum ≤ 8) (hdg : decode cc pc = .ok (.invokevirtual index, 3))
    (kk : ∀ (G1 : GG) (H1 : Heap) (locs1 : List Loc), post G1 → HG J z ad s G1 H1 locs1 → W p l e R s m args below meth c H1 locs1 cells slots Q (F0 m (pc + 3) ls rest)) : W p l e R s m args below meth c H locs cells slots Q (F0 m pc ls st) := by
  have hg : GoodIn ws0 (wsV own index y.cls y (wsY y bytes mx none)) := by
    intro w hw
    have hin : w ∈ ws0 := by
      simp only [wsV, wsY, List.mem_append, List.mem_cons, List.not_mem_nil, or_false] at hw
      rcases hw with (rfl | rfl | rfl | rfl) | rfl | hw
      · exact w1
      · exact w2
      · exact w3
      · exact w4
      · exact w5
      · exact hw
    exact ws0_self w hin
  have hrecv : ∃ cell : Cell, H[ad k]? = some cell ∧ cell.vm.isStatics = false ∧ s.vm.findClass y.cls = some cell.cls := by
    have := va_recv (q0 := k) h.1 h.2.1 hc (by rw [wl_get hk]; exact congrArg (fun e => some (ad k, e)) he)
    rw [hq] at this
    exact this
  refine va_callv (st0 := st) (va_runV (As := As) (rest := rest) X hM (cwV As.length X.2.2.2.2 hg rfl rfl rfl hd hR) ⟨HV.blind, hrecv, fun U hU hW => ⟨rfl, h.toU hU hW.alike⟩⟩ rfl rfl hl hst (lv_room hrest) hdg hf) h.2.2.2.1 (fun _ _ h => h) (fun _ h => h) (fun u t H1 locs1 ht hvm hp hB _ _ hS => ?_)
  exact kk u H1 locs1 hp (HS.ofU hB ht hvm hS h.2.2.2.2)
theorem rg_cis (X : Cx p c cc s m own args nL) (hl : ls.size = nL) (h : HG J z ad s G H locs) {y : MethodName} {bytes : ByteArray} {mx : Nat} {ty : FieldType} {d : Nat} {As : List Value} {post : Int32 → GG → Prop} (hM : MI l J z ad y bytes mx ty d As G post) {index : Nat} (w1 : Cond.methodLink own index y ∈ ws0) (w2 : Cond.static y ∈ ws0) (w4 : Cond.initialized own ∈ ws0) (w5 : Cond.code y bytes mx (some ty) ∈ ws0)
    (hd : y.cls = own ∧ y.cls ≠ "java/lang/invoke/MethodHandle" ∧ y.cls ≠ "java/lang/invoke/VarHandle" ∧ (parseMethodDescriptor y.desc).map (fun d => d.parameters.length) = some As.length) (hR : d + 1 ≤ R.frames ∧ 8 + (mx + 11) + 30 * d ≤ R.locals) (hf : cells + 0 ≤ R.cells ∧ slots + 0 ≤ R.slots) {st : List Value} (hst : st = As.reverse ++ rest) (hrest : (rest.map fun v => v.category).sum ≤ 8) (hdg : decode cc pc = .ok (.invokestatic index, 3))
    (kk : ∀ (r : Int32) (G1 : GG) (H1 : Heap) (locs1 : List Loc), post r G1 → HG J z ad s G1 H1 locs1 → W p l e R s m args below meth c H1 locs1 cells slots Q (F0 m (pc + 3) ls (.int r :: rest))) : W p l e R s m args below meth c H locs cells slots Q (F0 m pc ls st) := by
  have hg : GoodIn ws0 (wsS own index y (wsY y bytes mx (some ty))) := by
    intro w hw
    have hin : w ∈ ws0 := by
      simp only [wsS, wsY, List.mem_append, List.mem_cons, List.not_mem_nil, or_false] at hw
      rcases hw with (rfl | rfl | rfl) | rfl | hw
      · exact w1
      · exact w2
      · exact w4
      · exact w5
      · exact hw
    exact ws0_self w hin
  refine va_calli (st0 := st) (va_runS (As := As) (rest := rest) X hM (cwS As.length X.2.2.2.2 hg rfl rfl rfl hd hR) ⟨HV.blind, fun U hU hW => ⟨rfl, h.toU hU hW.alike⟩⟩ rfl rfl hl hst (lv_room hrest) hdg hf) h.2.2.2.1 (fun _ _ h => h) (fun _ h => h) (fun r u t H1 locs1 ht hvm hp hB _ _ hS => ?_)
  exact kk r u H1 locs1 hp (HS.ofU hB ht hvm hS h.2.2.2.2)
/-- a field that is an int, or a reference, of an object of the world -/
theorem rg_get (X : Cx p c cc s m own args nL) (h : HG J z ad s G H locs) {C : String} {T : u_T} {N ci index : Nat} (hin : ∀ w ∈ u_ws C T N, w ∈ ws0) (hc : vwCl[ci]? = some (C, T, N)) (j : Nat) (hj : j < N) (hlink : Cond.fieldLink own index (T j).1 (T j).2.1 (T j).2.2.1 ∈ ws0) (k : Nat) (hk : k < 215) {F : (Nat → Int32) → List Value} (hO : ∀ g, shC J ad k g = .inr (ci, F g)) {v : Value} (hv : (F (G k))[j]? = some v) (hdg : decode cc pc = .ok (.getfield index, 3))
    (kk : W p l e R s m args below meth c H locs cells slots Q (F0 m (pc + 3) ls (v :: rest))) : W p l e R s m args below meth c H locs cells slots Q (F0 m pc ls (.ref (ad k) :: rest)) :=
  rw_get X h hin hc j hj hlink k hk (hO (G k)) hv hdg kk
theorem rg_put (X : Cx p c cc s m own args nL) (h : HG J z ad s G H locs) {C : String} {T : u_T} {N ci index : Nat} (hin : ∀ w ∈ u_ws C T N, w ∈ ws0) (ty0 : Nat → FieldType) (hty : ∀ k, k < N → parseFieldDescriptor (T k).2.2.1 = some (ty0 k)) (hnm : ∀ a, a < N → ∀ b, b < N → a ≠ b → (T a).2.1 ≠ (T b).2.1) (hc : vwCl[ci]? = some (C, T, N)) (j : Nat) (hj : j < N) (hlink : Cond.fieldLink own index (T j).1 (T j).2.1 (T j).2.2.1 ∈ ws0) (hfin : (T j).2.2.2 = false) (k : Nat) (hk : k < 215) {F : (Nat → Int32) → List Value} (hO : ∀ g, shC J ad k g = .inr (ci, F g)) (hl : ∀ g, j < (F g).length) {v : Int32} (hF : ∀ g, (F g).set j (.int v) = F (upd g j v)) (hn : narrow (ty0 j) (.int v) = .int v) (hfit : fits (ty0 j) (.int v) = true) (hdg : decode cc pc = .ok (.putfield index, 3))
    (kk : ∀ (H1 : Heap) (locs1 : List Loc), HG J z ad s (u1 G k (upd (G k) j v)) H1 locs1 → W p l e R s m args below meth c H1 locs1 cells slots Q (F0 m (pc + 3) ls rest)) : W p l e R s m args below meth c H locs cells slots Q (F0 m pc ls (.int v :: .ref (ad k) :: rest)) := by
  refine rw_put X h hin ty0 hty hnm hc j hj hlink hfin k hk (hO (G k)) (hl _) hn hfit hdg (fun H1 locs1 h1 => kk H1 locs1 ?_)
  rw [shp_u (g := upd (G k) j v) (by rw [hO, hF])] at h1
  exact h1
theorem rg_ild (X : Cx p c cc s m own args nL) (h : HG J z ad s G H locs) (k : Nat) (hk : k < 215) {N : Nat} (hA : ∀ g, shC J ad k g = .inl (J.2.1, N, .inl g)) {i : Int32} (j : Nat) (hi : i = nI j) (hj : j < N) (hN : N < 2 ^ 31) (hdg : decode cc pc = .ok (.iaload, 1))
    (kk : W p l e R s m args below meth c H locs cells slots Q (F0 m (pc + 1) ls (.int (G k j) :: rest))) : W p l e R s m args below meth c H locs cells slots Q (F0 m pc ls (.int i :: .ref (ad k) :: rest)) :=
  rw_ild X h k hk (hA (G k)) j hi hj hN hdg kk
theorem rg_cld (X : Cx p c cc s m own args nL) (h : HG J z ad s G H locs) (k : Nat) (hk : k < 215) {N : Nat} (hA : ∀ g, shC J ad k g = .inl (J.2.2.1, N, .inl g)) {i : Int32} (j : Nat) (hi : i = nI j) (hj : j < N) (hN : N < 2 ^ 31) (hdg : decode cc pc = .ok (.caload, 1))
    (kk : W p l e R s m args below meth c H locs cells slots Q (F0 m (pc + 1) ls (.int (G k j) :: rest))) : W p l e R s m args below meth c H locs cells slots Q (F0 m pc ls (.int i :: .ref (ad k) :: rest)) :=
  rw_cld X h k hk (hA (G k)) j hi hj hN hdg kk
theorem rg_ist (X : Cx p c cc s m own args nL) (h : HG J z ad s G H locs) (k : Nat) (hk : k < 215) {N : Nat} (hA : ∀ g, shC J ad k g = .inl (J.2.1, N, .inl g)) {i x : Int32} (j : Nat) (hi : i = nI j) (hj : j < N) (hN : N < 2 ^ 31) (hdg : decode cc pc = .ok (.iastore, 1))
    (kk : ∀ (H1 : Heap) (locs1 : List Loc), HG J z ad s (u1 G k (upd (G k) j x)) H1 locs1 → W p l e R s m args below meth c H1 locs1 cells slots Q (F0 m (pc + 1) ls rest)) : W p l e R s m args below meth c H locs cells slots Q (F0 m pc ls (.int x :: .int i :: .ref (ad k) :: rest)) := by
  refine rw_ist X h k hk (hA (G k)) j hi hj hN hdg (fun H1 locs1 h1 => kk H1 locs1 ?_)
  rw [shp_u (g := upd (G k) j x) (by rw [hA])] at h1
  exact h1
theorem rg_cst (X : Cx p c cc s m own args nL) (h : HG J z ad s G H locs) (k : Nat) (hk : k < 215) {N : Nat} (hA : ∀ g, shC J ad k g = .inl (J.2.2.1, N, .inl g)) {i x : Int32} (j : Nat) (hi : i = nI j) (hj : j < N) (hN : N < 2 ^ 31) (hdg : decode cc pc = .ok (.castore, 1))
    (kk : ∀ (H1 : Heap) (locs1 : List Loc), HG J z ad s (u1 G k (upd (G k) j (vp_nar .char x))) H1 locs1 → W p l e R s m args below meth c H1 locs1 cells slots Q (F0 m (pc + 1) ls rest)) : W p l e R s m args below meth c H locs cells slots Q (F0 m pc ls (.int x :: .int i :: .ref (ad k) :: rest)) := by
  refine rw_cst X h k hk (hA (G k)) j hi hj hN hdg (fun H1 locs1 h1 => kk H1 locs1 ?_)
  rw [shp_u (g := upd (G k) j (vp_nar .char x)) (by rw [hA])] at h1
  exact h1
theorem rg_cpy (X : Cx p c cc s m own args nL) (hls : ls.size = nL) (h : HG J z ad s G H locs) {index : Nat} (hlink : Cond.methodLink own index arraycopyName ∈ ws0) (hnat : Cond.native arraycopyName ∈ ws0) (hstat : Cond.static arraycopyName ∈ ws0) (hini : Cond.initialized "java/lang/System" ∈ ws0) (k0 k1 : Nat) (hk0 : k0 < 215) (hk1 : k1 < 215) {N : Nat} (hA0 : ∀ g, shC J ad k0 g = .inl (J.2.1, N, .inl g)) (hA1 : ∀ g, shC J ad k1 g = .inl (J.2.1, N, .inl g)) {x : Int32} (hx : x = nI N) (hN : N < 2 ^ 31) (hframes : 1 ≤ R.frames) (hlocals : (rest.map fun v => v.category).sum + (nativeFrameWords "java/lang/System" "arraycopy" 5 + 11) ≤ R.locals) (hdg : decode cc pc = .ok (.invokestatic index, 3))
    (kk : ∀ (H1 : Heap) (locs1 : List Loc), HG J z ad s (u1 G k1 (fun j => if j < N then G k0 j else G k1 j)) H1 locs1 → W p l e R s m args below meth c H1 locs1 cells slots Q (F0 m (pc + 3) ls rest)) : W p l e R s m args below meth c H locs cells slots Q (F0 m pc ls (.int x :: .int 0 :: .ref (ad k1) :: .int 0 :: .ref (ad k0) :: rest)) := by
  refine rw_cpy X hls h hlink hnat hstat hini k0 k1 hk0 hk1 (hA0 (G k0)) (hA1 (G k1)) hx hN hframes hlocals hdg (fun H1 locs1 h1 => kk H1 locs1 ?_)
  rw [shp_u (g := fun j => if j < N then G k0 j else G k1 j) (by rw [hA1])] at h1
  exact h1
/-- another form of the number on top -/
theorem lv_as {x y : Int32} (hxy : x = y) (k : W p l e R s m args below meth c H locs cells slots Q (F0 m pc ls (.int y :: rest))) : W p l e R s m args below meth c H locs cells slots Q (F0 m pc ls (.int x :: rest)) := by
  subst hxy
  exact k
end SHAPE
end
section
/-! numbers, objects and arrays by their cells, fields by their links, calls with a known answer -/
theorem nI_addc {a b c : Nat} (h : a + b = c) : nI a + nI b = nI c := by rw [nI_add, h]
theorem nI_mulc {a b c : Nat} (h : a * b = c) : nI a * nI b = nI c := by rw [pk_mul, h]
theorem nI_subc {a b c : Nat} (h : c + b = a) : nI a - nI b = nI c := by rw [pk_sub (by omega)]; congr 1; omega
theorem nI_decc {a c : Nat} (h : c + 1 = a) : nI a + Int32.ofInt (-1) = nI c := by
  subst h
  exact pk_m1 c
theorem nz_eq {a : Nat} (h : a < 2 ^ 31) : nI a = 0 ↔ a = 0 := nI_eq h (by decide)
theorem nz_lt {a : Nat} (h : a < 2 ^ 31) : nI a < 0 ↔ False := iff_of_false (nI_pos h) id
theorem nz_ge {a : Nat} (h : a < 2 ^ 31) : 0 ≤ nI a ↔ True := iff_of_true (nI_pos' h) trivial
theorem nz_gt {a : Nat} (h : a < 2 ^ 31) : 0 < nI a ↔ 0 < a := nI_ltI (by decide) h
theorem nz_le {a : Nat} (h : a < 2 ^ 31) : nI a ≤ 0 ↔ a = 0 := (nI_leI (b := 0) h (by decide)).trans Nat.le_zero
def rwS (S : Nat → Int32) (B : Nat) : Nat → Int32 := fun k => S (B + k)
def tn (x : Int32) : Nat := x.toNatClampNeg
theorem tn_nI {n : Nat} (h : n < 2 ^ 31) : tn (nI n) = n := nI_clamp h
/-- the reference's numbers with the row from B on replaced -/
def wrS (S : Nat → Int32) (B : Nat) (r : Nat → Int32) : Nat → Int32 := fun k => if B ≤ k then r (k - B) else S k
def RG (G : GG) (B : Nat) (r : Nat → Int32) : GG := u1 G 211 (wrS (G 211) B r)
theorem RG_row (G : GG) (B : Nat) (r : Nat → Int32) : rwS ((RG G B r) 211) B = r := by
  funext k
  simp [rwS, RG, u1, wrS]
theorem RG_self (G : GG) (B : Nat) : RG G B (rwS (G 211) B) = G := by
  funext a
  by_cases h : a = 211
  · subst h
    funext k
    by_cases hk : B ≤ k
    · simp [RG, u1, wrS, rwS, hk]
    · simp [RG, u1, wrS, hk]
  · simp [RG, u1, h]
theorem RG_get {G : GG} {B : Nat} {r : Nat → Int32} {k j : Nat} (h : k ≠ 211) : (RG G B r) k j = G k j := by simp [RG, u1, h]
theorem RG_n {G : GG} {B : Nat} {r : Nat → Int32} {k : Nat} (h : k ≠ 211) : (RG G B r) k = G k := by simp [RG, u1, h]
theorem RG_upd {G : GG} {B o : Nat} {r : Nat → Int32} {v : Int32} : u1 (RG G B r) 211 (upd ((RG G B r) 211) (B + o) v) = RG G B (upd r o v) := by
  funext a
  by_cases h : a = 211
  · subst h
    funext k
    by_cases hk : B ≤ k
    · by_cases hko : k = B + o
      · subst hko
        simp [RG, u1, wrS, upd]
      · simp [RG, u1, wrS, upd, hk, hko, show ¬ k - B = o by omega]
    · simp [RG, u1, wrS, upd, hk, show ¬ k = B + o by omega]
  · simp [RG, u1, h]
theorem RG_put {G : GG} {B k j : Nat} {r : Nat → Int32} {v : Int32} (h : k ≠ 211) : u1 (RG G B r) k (upd ((RG G B r) k) j v) = RG (u1 G k (upd (G k) j v)) B r := by
  funext a
  by_cases h1 : a = k
  · subst h1
    simp [RG, u1, h]
  · by_cases h2 : a = 211
    · subst h2
      simp [RG, u1, Ne.symm h]
    · simp [RG, u1, h1, h2]
theorem RG_u1 {G : GG} {B k : Nat} {r : Nat → Int32} {f : Nat → Int32} (h : k ≠ 211) : u1 (RG G B r) k f = RG (u1 G k f) B r := by
  funext a
  by_cases h1 : a = k
  · subst h1
    simp [RG, u1, h]
  · by_cases h2 : a = 211
    · subst h2
      simp [RG, u1, Ne.symm h]
    · simp [RG, u1, h1, h2]
/-- a loop's value: n rounds of f from a -/
def itr {α : Type} (f : Nat → α → α) (a : α) : Nat → α
  | 0 => a
  | n + 1 => f n (itr f a n)
abbrev fs0 (ad : Nat → Nat) (g : Nat → Int32) : List Value := [.ref (ad 102), .int (g 1), .int (g 2)]
theorem xo_101 (J : JJ) (ad : Nat → Nat) (g : Nat → Int32) : shC J ad 101 g = .inr (0, fs0 ad g) := rfl
abbrev fs1 (ad : Nat → Nat) (b : Nat) (g : Nat → Int32) : List Value := [.ref (ad (b + 8)), .ref (ad (b + 9)), .ref (ad (b + 10))]
theorem so_7 {b : Nat} (hb : IsB b) (J : JJ) (ad : Nat → Nat) (g : Nat → Int32) : shC J ad (b + 7) g = .inr (1, fs1 ad b g) := hb.sh (c := 7) (by decide) J ad g
abbrev fs2 (ad : Nat → Nat) (g : Nat → Int32) : List Value := [.ref (ad 204), .int (g 1), .int (g 2), .int (g 3), .ref (ad 205), .ref (ad 206), .ref (ad 207), .ref (ad 208), .ref (ad 209)]
theorem xo_203 (J : JJ) (ad : Nat → Nat) (g : Nat → Int32) : shC J ad 203 g = .inr (2, fs2 ad g) := rfl
abbrev fs3 (ad : Nat → Nat) (b : Nat) (g : Nat → Int32) : List Value := [.int (g 0), .ref (ad (b + 12)), .ref (ad (b + 13)), .ref (ad (b + 14)), .ref (ad (b + 15)), .ref (ad (b + 16)), .ref (ad (b + 17))]
theorem so_11 {b : Nat} (hb : IsB b) (J : JJ) (ad : Nat → Nat) (g : Nat → Int32) : shC J ad (b + 11) g = .inr (3, fs3 ad b g) := hb.sh (c := 11) (by decide) J ad g
abbrev fs4 (ad : Nat → Nat) (b : Nat) (g : Nat → Int32) : List Value := [.int (g 0), .ref (ad (b + 19)), .ref (ad (b + 20)), .ref (ad (b + 21)), .ref (ad (b + 22))]
theorem so_18 {b : Nat} (hb : IsB b) (J : JJ) (ad : Nat → Nat) (g : Nat → Int32) : shC J ad (b + 18) g = .inr (4, fs4 ad b g) := hb.sh (c := 18) (by decide) J ad g
abbrev fs5 (ad : Nat → Nat) (b : Nat) (g : Nat → Int32) : List Value := [.ref (ad (b + 1)), .ref (ad (b + 7)), .ref (ad (b + 11)), .ref (ad (b + 18)), .ref (ad (b + 23)), .int (g 5), .int (g 6), .int (g 7), .int (g 8), .ref (ad (b + 24))]
theorem so_0 {b : Nat} (hb : IsB b) (J : JJ) (ad : Nat → Nat) (g : Nat → Int32) : shC J ad (b) g = .inr (5, fs5 ad b g) := hb.sh (c := 0) (by decide) J ad g
abbrev fs6 (ad : Nat → Nat) (b : Nat) (g : Nat → Int32) : List Value := [.int (g 0), .ref (ad (b + 2)), .ref (ad (b + 3)), .ref (ad (b + 4)), .ref (ad (b + 5)), .ref (ad (b + 6))]
theorem so_1 {b : Nat} (hb : IsB b) (J : JJ) (ad : Nat → Nat) (g : Nat → Int32) : shC J ad (b + 1) g = .inr (6, fs6 ad b g) := hb.sh (c := 1) (by decide) J ad g
abbrev fs7 (ad : Nat → Nat) (g : Nat → Int32) : List Value := [.ref (ad 1), .ref (ad 26), .ref (ad 51), .ref (ad 76), .int (g 4), .ref (ad 101), .ref (ad 203), .int (g 7), .int (g 8)]
theorem xo_0 (J : JJ) (ad : Nat → Nat) (g : Nat → Int32) : shC J ad 0 g = .inr (7, fs7 ad g) := rfl
abbrev fs8 (ad : Nat → Nat) (g : Nat → Int32) : List Value := [.ref (ad 211), .int (g 1), .int (g 2), .ref (ad 212), .int (g 4), .int (g 5), .int (g 6), .ref (ad 213), .ref (ad 214), .int (g 9), .int (g 10), .int (g 11), .int (g 12), .int (g 13), .int (g 14)]
theorem xo_210 (J : JJ) (ad : Nat → Nat) (g : Nat → Int32) : shC J ad 210 g = .inr (8, fs8 ad g) := rfl
theorem sa_2 {b : Nat} (hb : IsB b) (J : JJ) (ad : Nat → Nat) : ∀ g, shC J ad (b + 2) g = .inl (J.2.1, 12, .inl g) := fun g => hb.sh (c := 2) (by decide) J ad g
theorem sa_3 {b : Nat} (hb : IsB b) (J : JJ) (ad : Nat → Nat) : ∀ g, shC J ad (b + 3) g = .inl (J.2.1, 12, .inl g) := fun g => hb.sh (c := 3) (by decide) J ad g
theorem sa_4 {b : Nat} (hb : IsB b) (J : JJ) (ad : Nat → Nat) : ∀ g, shC J ad (b + 4) g = .inl (J.2.1, 12, .inl g) := fun g => hb.sh (c := 4) (by decide) J ad g
theorem sa_5 {b : Nat} (hb : IsB b) (J : JJ) (ad : Nat → Nat) : ∀ g, shC J ad (b + 5) g = .inl (J.2.1, 12, .inl g) := fun g => hb.sh (c := 5) (by decide) J ad g
theorem sa_6 {b : Nat} (hb : IsB b) (J : JJ) (ad : Nat → Nat) : ∀ g, shC J ad (b + 6) g = .inl (J.2.1, 12, .inl g) := fun g => hb.sh (c := 6) (by decide) J ad g
theorem sa_8 {b : Nat} (hb : IsB b) (J : JJ) (ad : Nat → Nat) : ∀ g, shC J ad (b + 8) g = .inl (J.2.1, 140, .inl g) := fun g => hb.sh (c := 8) (by decide) J ad g
theorem sa_9 {b : Nat} (hb : IsB b) (J : JJ) (ad : Nat → Nat) : ∀ g, shC J ad (b + 9) g = .inl (J.2.1, 140, .inl g) := fun g => hb.sh (c := 9) (by decide) J ad g
theorem sa_10 {b : Nat} (hb : IsB b) (J : JJ) (ad : Nat → Nat) : ∀ g, shC J ad (b + 10) g = .inl (J.2.1, 140, .inl g) := fun g => hb.sh (c := 10) (by decide) J ad g
theorem sa_12 {b : Nat} (hb : IsB b) (J : JJ) (ad : Nat → Nat) : ∀ g, shC J ad (b + 12) g = .inl (J.2.1, 12, .inl g) := fun g => hb.sh (c := 12) (by decide) J ad g
theorem sa_13 {b : Nat} (hb : IsB b) (J : JJ) (ad : Nat → Nat) : ∀ g, shC J ad (b + 13) g = .inl (J.2.1, 12, .inl g) := fun g => hb.sh (c := 13) (by decide) J ad g
theorem sa_14 {b : Nat} (hb : IsB b) (J : JJ) (ad : Nat → Nat) : ∀ g, shC J ad (b + 14) g = .inl (J.2.1, 12, .inl g) := fun g => hb.sh (c := 14) (by decide) J ad g
theorem sa_15 {b : Nat} (hb : IsB b) (J : JJ) (ad : Nat → Nat) : ∀ g, shC J ad (b + 15) g = .inl (J.2.1, 12, .inl g) := fun g => hb.sh (c := 15) (by decide) J ad g
theorem sa_16 {b : Nat} (hb : IsB b) (J : JJ) (ad : Nat → Nat) : ∀ g, shC J ad (b + 16) g = .inl (J.2.1, 12, .inl g) := fun g => hb.sh (c := 16) (by decide) J ad g
theorem sa_17 {b : Nat} (hb : IsB b) (J : JJ) (ad : Nat → Nat) : ∀ g, shC J ad (b + 17) g = .inl (J.2.1, 12, .inl g) := fun g => hb.sh (c := 17) (by decide) J ad g
theorem sa_19 {b : Nat} (hb : IsB b) (J : JJ) (ad : Nat → Nat) : ∀ g, shC J ad (b + 19) g = .inl (J.2.1, 12, .inl g) := fun g => hb.sh (c := 19) (by decide) J ad g
theorem sa_20 {b : Nat} (hb : IsB b) (J : JJ) (ad : Nat → Nat) : ∀ g, shC J ad (b + 20) g = .inl (J.2.1, 12, .inl g) := fun g => hb.sh (c := 20) (by decide) J ad g
theorem sa_21 {b : Nat} (hb : IsB b) (J : JJ) (ad : Nat → Nat) : ∀ g, shC J ad (b + 21) g = .inl (J.2.1, 12, .inl g) := fun g => hb.sh (c := 21) (by decide) J ad g
theorem sa_22 {b : Nat} (hb : IsB b) (J : JJ) (ad : Nat → Nat) : ∀ g, shC J ad (b + 22) g = .inl (J.2.1, 12, .inl g) := fun g => hb.sh (c := 22) (by decide) J ad g
theorem sa_23 {b : Nat} (hb : IsB b) (J : JJ) (ad : Nat → Nat) : ∀ g, shC J ad (b + 23) g = .inl (J.2.1, 2, .inl g) := fun g => hb.sh (c := 23) (by decide) J ad g
theorem sa_24 {b : Nat} (hb : IsB b) (J : JJ) (ad : Nat → Nat) : ∀ g, shC J ad (b + 24) g = .inl (J.2.1, 12, .inl g) := fun g => hb.sh (c := 24) (by decide) J ad g
theorem xa_204 (J : JJ) (ad : Nat → Nat) : ∀ g, shC J ad 204 g = .inl (J.2.2.1, 60, .inl g) := fun _ => rfl
theorem xa_205 (J : JJ) (ad : Nat → Nat) : ∀ g, shC J ad 205 g = .inl (J.2.1, 20, .inl g) := fun _ => rfl
theorem xa_206 (J : JJ) (ad : Nat → Nat) : ∀ g, shC J ad 206 g = .inl (J.2.1, 20, .inl g) := fun _ => rfl
theorem xa_207 (J : JJ) (ad : Nat → Nat) : ∀ g, shC J ad 207 g = .inl (J.2.1, 20, .inl g) := fun _ => rfl
theorem xa_208 (J : JJ) (ad : Nat → Nat) : ∀ g, shC J ad 208 g = .inl (J.2.1, 20, .inl g) := fun _ => rfl
theorem xa_209 (J : JJ) (ad : Nat → Nat) : ∀ g, shC J ad 209 g = .inl (J.2.1, 20, .inl g) := fun _ => rfl
theorem xa_211 (J : JJ) (ad : Nat → Nat) : ∀ g, shC J ad 211 g = .inl (J.2.1, 4896, .inl g) := fun _ => rfl
theorem xa_212 (J : JJ) (ad : Nat → Nat) : ∀ g, shC J ad 212 g = .inl (J.2.1, 60, .inl g) := fun _ => rfl
theorem xa_213 (J : JJ) (ad : Nat → Nat) : ∀ g, shC J ad 213 g = .inl (J.2.1, 12, .inl g) := fun _ => rfl
theorem xa_214 (J : JJ) (ad : Nat → Nat) : ∀ g, shC J ad 214 g = .inl (J.2.1, 12, .inl g) := fun _ => rfl
section FIELDS
variable {p : Program} {l : Launch} {e : Env} {R : Room} {s : State} {m : MethodId} {args : Array Value} {below : List Frame} {meth : Method} {c : Code} {H : Heap} {locs : List Loc} {cells slots : Nat} {Q : State → Prop}
variable {cc : ByteArray} {pc : Nat} {ls : Array Slot} {rest : List Value} {J : JJ} {z nL : Nat} {ad : Nat → Nat} {G : GG} {own : String}
theorem fg_X7_16 (X : Cx p c cc s m RX7 args nL) (h : HG J z ad s G H locs) (hdg : decode cc pc = .ok (.getfield 16, 3)) (kk : W p l e R s m args below meth c H locs cells slots Q (F0 m (pc + 3) ls (.ref (ad 26) :: rest))) : W p l e R s m args below meth c H locs cells slots Q (F0 m pc ls (.ref (ad 0) :: rest)) :=
  rg_get X h (ci := 7) in0_X7 rfl 1 (by decide) mw_16 0 (by decide) (F := (fun g => fs7 ad g)) (fun g => xo_0 J ad g) rfl hdg kk
theorem fg_X7_12 (X : Cx p c cc s m RX7 args nL) (h : HG J z ad s G H locs) (hdg : decode cc pc = .ok (.getfield 12, 3)) (kk : W p l e R s m args below meth c H locs cells slots Q (F0 m (pc + 3) ls (.ref (ad 1) :: rest))) : W p l e R s m args below meth c H locs cells slots Q (F0 m pc ls (.ref (ad 0) :: rest)) :=
  rg_get X h (ci := 7) in0_X7 rfl 0 (by decide) mw_15 0 (by decide) (F := (fun g => fs7 ad g)) (fun g => xo_0 J ad g) rfl hdg kk
theorem fg_X7_35 (X : Cx p c cc s m RX7 args nL) (h : HG J z ad s G H locs) (hdg : decode cc pc = .ok (.getfield 35, 3)) (kk : W p l e R s m args below meth c H locs cells slots Q (F0 m (pc + 3) ls (.ref (ad 203) :: rest))) : W p l e R s m args below meth c H locs cells slots Q (F0 m pc ls (.ref (ad 0) :: rest)) :=
  rg_get X h (ci := 7) in0_X7 rfl 6 (by decide) mw_26 0 (by decide) (F := (fun g => fs7 ad g)) (fun g => xo_0 J ad g) rfl hdg kk
theorem fg_X7_78 (X : Cx p c cc s m RX7 args nL) (h : HG J z ad s G H locs) (hdg : decode cc pc = .ok (.getfield 78, 3)) (kk : W p l e R s m args below meth c H locs cells slots Q (F0 m (pc + 3) ls (.int (G 203 3) :: rest))) : W p l e R s m args below meth c H locs cells slots Q (F0 m pc ls (.ref (ad 203) :: rest)) :=
  rg_get X h (ci := 2) in0_X2 rfl 3 (by decide) mw_450 203 (by decide) (F := (fun g => fs2 ad g)) (fun g => xo_203 J ad g) rfl hdg kk
theorem fp_X7_85 (X : Cx p c cc s m RX7 args nL) (h : HG J z ad s G H locs) {v : Int32} (hdg : decode cc pc = .ok (.putfield 85, 3)) (kk : ∀ (H1 : Heap) (locs1 : List Loc), HG J z ad s (u1 G 0 (upd (G 0) 7 v)) H1 locs1 → W p l e R s m args below meth c H1 locs1 cells slots Q (F0 m (pc + 3) ls rest)) : W p l e R s m args below meth c H locs cells slots Q (F0 m pc ls (.int v :: .ref (ad 0) :: rest)) :=
  rg_put X h (ci := 7) in0_X7 tyX7 tyX7_ok nmX7 rfl 7 (by decide) mw_451 rfl 0 (by decide) (F := (fun g => fs7 ad g)) (fun g => xo_0 J ad g) (fun _ => Nat.le_of_ble_eq_true rfl) (fun _ => rfl) rfl rfl hdg kk
theorem fp_X7_88 (X : Cx p c cc s m RX7 args nL) (h : HG J z ad s G H locs) {v : Int32} (hdg : decode cc pc = .ok (.putfield 88, 3)) (kk : ∀ (H1 : Heap) (locs1 : List Loc), HG J z ad s (u1 G 0 (upd (G 0) 8 v)) H1 locs1 → W p l e R s m args below meth c H1 locs1 cells slots Q (F0 m (pc + 3) ls rest)) : W p l e R s m args below meth c H locs cells slots Q (F0 m pc ls (.int v :: .ref (ad 0) :: rest)) :=
  rg_put X h (ci := 7) in0_X7 tyX7 tyX7_ok nmX7 rfl 8 (by decide) mw_452 rfl 0 (by decide) (F := (fun g => fs7 ad g)) (fun g => xo_0 J ad g) (fun _ => Nat.le_of_ble_eq_true rfl) (fun _ => rfl) rfl rfl hdg kk
theorem fg_X7_88 (X : Cx p c cc s m RX7 args nL) (h : HG J z ad s G H locs) (hdg : decode cc pc = .ok (.getfield 88, 3)) (kk : W p l e R s m args below meth c H locs cells slots Q (F0 m (pc + 3) ls (.int (G 0 8) :: rest))) : W p l e R s m args below meth c H locs cells slots Q (F0 m pc ls (.ref (ad 0) :: rest)) :=
  rg_get X h (ci := 7) in0_X7 rfl 8 (by decide) mw_452 0 (by decide) (F := (fun g => fs7 ad g)) (fun g => xo_0 J ad g) rfl hdg kk
theorem fg_X7_85 (X : Cx p c cc s m RX7 args nL) (h : HG J z ad s G H locs) (hdg : decode cc pc = .ok (.getfield 85, 3)) (kk : W p l e R s m args below meth c H locs cells slots Q (F0 m (pc + 3) ls (.int (G 0 7) :: rest))) : W p l e R s m args below meth c H locs cells slots Q (F0 m pc ls (.ref (ad 0) :: rest)) :=
  rg_get X h (ci := 7) in0_X7 rfl 7 (by decide) mw_451 0 (by decide) (F := (fun g => fs7 ad g)) (fun g => xo_0 J ad g) rfl hdg kk
theorem fg_X7_28 (X : Cx p c cc s m RX7 args nL) (h : HG J z ad s G H locs) (hdg : decode cc pc = .ok (.getfield 28, 3)) (kk : W p l e R s m args below meth c H locs cells slots Q (F0 m (pc + 3) ls (.ref (ad 101) :: rest))) : W p l e R s m args below meth c H locs cells slots Q (F0 m pc ls (.ref (ad 0) :: rest)) :=
  rg_get X h (ci := 7) in0_X7 rfl 5 (by decide) mw_22 0 (by decide) (F := (fun g => fs7 ad g)) (fun g => xo_0 J ad g) rfl hdg kk
theorem fg_X7_22 (X : Cx p c cc s m RX7 args nL) (h : HG J z ad s G H locs) (hdg : decode cc pc = .ok (.getfield 22, 3)) (kk : W p l e R s m args below meth c H locs cells slots Q (F0 m (pc + 3) ls (.ref (ad 76) :: rest))) : W p l e R s m args below meth c H locs cells slots Q (F0 m pc ls (.ref (ad 0) :: rest)) :=
  rg_get X h (ci := 7) in0_X7 rfl 3 (by decide) mw_18 0 (by decide) (F := (fun g => fs7 ad g)) (fun g => xo_0 J ad g) rfl hdg kk
theorem fp_X7_95 (X : Cx p c cc s m RX7 args nL) (h : HG J z ad s G H locs) {v : Int32} (hn : narrow .boolean (.int v) = .int v) (hfit : fits .boolean (.int v) = true) (hdg : decode cc pc = .ok (.putfield 95, 3)) (kk : ∀ (H1 : Heap) (locs1 : List Loc), HG J z ad s (u1 G 0 (upd (G 0) 4 v)) H1 locs1 → W p l e R s m args below meth c H1 locs1 cells slots Q (F0 m (pc + 3) ls rest)) : W p l e R s m args below meth c H locs cells slots Q (F0 m pc ls (.int v :: .ref (ad 0) :: rest)) :=
  rg_put X h (ci := 7) in0_X7 tyX7 tyX7_ok nmX7 rfl 4 (by decide) mw_558 rfl 0 (by decide) (F := (fun g => fs7 ad g)) (fun g => xo_0 J ad g) (fun _ => Nat.le_of_ble_eq_true rfl) (fun _ => rfl) hn hfit hdg kk
theorem fg_X7_99 {b : Nat} (hb : IsB b) (X : Cx p c cc s m RX7 args nL) (h : HG J z ad s G H locs) (hdg : decode cc pc = .ok (.getfield 99, 3)) (kk : W p l e R s m args below meth c H locs cells slots Q (F0 m (pc + 3) ls (.ref (ad (b + 7)) :: rest))) : W p l e R s m args below meth c H locs cells slots Q (F0 m pc ls (.ref (ad b) :: rest)) :=
  rg_get X h (ci := 5) in0_X5 rfl 1 (by decide) mw_559 b (hb.lt (c := 0) (by decide)) (F := (fun g => fs5 ad b g)) (fun g => so_0 hb J ad g) rfl hdg kk
theorem fg_X7_95 (X : Cx p c cc s m RX7 args nL) (h : HG J z ad s G H locs) (hdg : decode cc pc = .ok (.getfield 95, 3)) (kk : W p l e R s m args below meth c H locs cells slots Q (F0 m (pc + 3) ls (.int (G 0 4) :: rest))) : W p l e R s m args below meth c H locs cells slots Q (F0 m pc ls (.ref (ad 0) :: rest)) :=
  rg_get X h (ci := 7) in0_X7 rfl 4 (by decide) mw_558 0 (by decide) (F := (fun g => fs7 ad g)) (fun g => xo_0 J ad g) rfl hdg kk
theorem fg_X7_108 {b : Nat} (hb : IsB b) (X : Cx p c cc s m RX7 args nL) (h : HG J z ad s G H locs) (hdg : decode cc pc = .ok (.getfield 108, 3)) (kk : W p l e R s m args below meth c H locs cells slots Q (F0 m (pc + 3) ls (.ref (ad (b + 1)) :: rest))) : W p l e R s m args below meth c H locs cells slots Q (F0 m pc ls (.ref (ad b) :: rest)) :=
  rg_get X h (ci := 5) in0_X5 rfl 0 (by decide) mw_589 b (hb.lt (c := 0) (by decide)) (F := (fun g => fs5 ad b g)) (fun g => so_0 hb J ad g) rfl hdg kk
theorem fg_X7_118 {b : Nat} (hb : IsB b) (X : Cx p c cc s m RX7 args nL) (h : HG J z ad s G H locs) (hdg : decode cc pc = .ok (.getfield 118, 3)) (kk : W p l e R s m args below meth c H locs cells slots Q (F0 m (pc + 3) ls (.ref (ad (b + 2)) :: rest))) : W p l e R s m args below meth c H locs cells slots Q (F0 m pc ls (.ref (ad (b + 1)) :: rest)) :=
  rg_get X h (ci := 6) in0_X6 rfl 1 (by decide) mw_590 (b + 1) (hb.lt (c := 1) (by decide)) (F := (fun g => fs6 ad b g)) (fun g => so_1 hb J ad g) rfl hdg kk
theorem fg_X7_122 {b : Nat} (hb : IsB b) (X : Cx p c cc s m RX7 args nL) (h : HG J z ad s G H locs) (hdg : decode cc pc = .ok (.getfield 122, 3)) (kk : W p l e R s m args below meth c H locs cells slots Q (F0 m (pc + 3) ls (.ref (ad (b + 3)) :: rest))) : W p l e R s m args below meth c H locs cells slots Q (F0 m pc ls (.ref (ad (b + 1)) :: rest)) :=
  rg_get X h (ci := 6) in0_X6 rfl 2 (by decide) mw_591 (b + 1) (hb.lt (c := 1) (by decide)) (F := (fun g => fs6 ad b g)) (fun g => so_1 hb J ad g) rfl hdg kk
theorem fg_X7_125 {b : Nat} (hb : IsB b) (X : Cx p c cc s m RX7 args nL) (h : HG J z ad s G H locs) (hdg : decode cc pc = .ok (.getfield 125, 3)) (kk : W p l e R s m args below meth c H locs cells slots Q (F0 m (pc + 3) ls (.ref (ad (b + 11)) :: rest))) : W p l e R s m args below meth c H locs cells slots Q (F0 m pc ls (.ref (ad b) :: rest)) :=
  rg_get X h (ci := 5) in0_X5 rfl 2 (by decide) mw_592 b (hb.lt (c := 0) (by decide)) (F := (fun g => fs5 ad b g)) (fun g => so_0 hb J ad g) rfl hdg kk
theorem fg_X7_137 {b : Nat} (hb : IsB b) (X : Cx p c cc s m RX7 args nL) (h : HG J z ad s G H locs) (hdg : decode cc pc = .ok (.getfield 137, 3)) (kk : W p l e R s m args below meth c H locs cells slots Q (F0 m (pc + 3) ls (.ref (ad (b + 4)) :: rest))) : W p l e R s m args below meth c H locs cells slots Q (F0 m pc ls (.ref (ad (b + 1)) :: rest)) :=
  rg_get X h (ci := 6) in0_X6 rfl 3 (by decide) mw_593 (b + 1) (hb.lt (c := 1) (by decide)) (F := (fun g => fs6 ad b g)) (fun g => so_1 hb J ad g) rfl hdg kk
theorem fg_X7_140 {b : Nat} (hb : IsB b) (X : Cx p c cc s m RX7 args nL) (h : HG J z ad s G H locs) (hdg : decode cc pc = .ok (.getfield 140, 3)) (kk : W p l e R s m args below meth c H locs cells slots Q (F0 m (pc + 3) ls (.ref (ad (b + 5)) :: rest))) : W p l e R s m args below meth c H locs cells slots Q (F0 m pc ls (.ref (ad (b + 1)) :: rest)) :=
  rg_get X h (ci := 6) in0_X6 rfl 4 (by decide) mw_594 (b + 1) (hb.lt (c := 1) (by decide)) (F := (fun g => fs6 ad b g)) (fun g => so_1 hb J ad g) rfl hdg kk
theorem fg_X7_143 {b : Nat} (hb : IsB b) (X : Cx p c cc s m RX7 args nL) (h : HG J z ad s G H locs) (hdg : decode cc pc = .ok (.getfield 143, 3)) (kk : W p l e R s m args below meth c H locs cells slots Q (F0 m (pc + 3) ls (.ref (ad (b + 6)) :: rest))) : W p l e R s m args below meth c H locs cells slots Q (F0 m pc ls (.ref (ad (b + 1)) :: rest)) :=
  rg_get X h (ci := 6) in0_X6 rfl 5 (by decide) mw_595 (b + 1) (hb.lt (c := 1) (by decide)) (F := (fun g => fs6 ad b g)) (fun g => so_1 hb J ad g) rfl hdg kk
theorem fg_X7_149 {b : Nat} (hb : IsB b) (X : Cx p c cc s m RX7 args nL) (h : HG J z ad s G H locs) (hdg : decode cc pc = .ok (.getfield 149, 3)) (kk : W p l e R s m args below meth c H locs cells slots Q (F0 m (pc + 3) ls (.ref (ad (b + 8)) :: rest))) : W p l e R s m args below meth c H locs cells slots Q (F0 m pc ls (.ref (ad (b + 7)) :: rest)) :=
  rg_get X h (ci := 1) in0_X1 rfl 0 (by decide) mw_614 (b + 7) (hb.lt (c := 7) (by decide)) (F := (fun g => fs1 ad b g)) (fun g => so_7 hb J ad g) rfl hdg kk
theorem fg_X7_152 {b : Nat} (hb : IsB b) (X : Cx p c cc s m RX7 args nL) (h : HG J z ad s G H locs) (hdg : decode cc pc = .ok (.getfield 152, 3)) (kk : W p l e R s m args below meth c H locs cells slots Q (F0 m (pc + 3) ls (.ref (ad (b + 9)) :: rest))) : W p l e R s m args below meth c H locs cells slots Q (F0 m pc ls (.ref (ad (b + 7)) :: rest)) :=
  rg_get X h (ci := 1) in0_X1 rfl 1 (by decide) mw_615 (b + 7) (hb.lt (c := 7) (by decide)) (F := (fun g => fs1 ad b g)) (fun g => so_7 hb J ad g) rfl hdg kk
theorem fg_X7_155 {b : Nat} (hb : IsB b) (X : Cx p c cc s m RX7 args nL) (h : HG J z ad s G H locs) (hdg : decode cc pc = .ok (.getfield 155, 3)) (kk : W p l e R s m args below meth c H locs cells slots Q (F0 m (pc + 3) ls (.ref (ad (b + 10)) :: rest))) : W p l e R s m args below meth c H locs cells slots Q (F0 m pc ls (.ref (ad (b + 7)) :: rest)) :=
  rg_get X h (ci := 1) in0_X1 rfl 2 (by decide) mw_616 (b + 7) (hb.lt (c := 7) (by decide)) (F := (fun g => fs1 ad b g)) (fun g => so_7 hb J ad g) rfl hdg kk
theorem fg_X7_164 {b : Nat} (hb : IsB b) (X : Cx p c cc s m RX7 args nL) (h : HG J z ad s G H locs) (hdg : decode cc pc = .ok (.getfield 164, 3)) (kk : W p l e R s m args below meth c H locs cells slots Q (F0 m (pc + 3) ls (.ref (ad (b + 12)) :: rest))) : W p l e R s m args below meth c H locs cells slots Q (F0 m pc ls (.ref (ad (b + 11)) :: rest)) :=
  rg_get X h (ci := 3) in0_X3 rfl 1 (by decide) mw_634 (b + 11) (hb.lt (c := 11) (by decide)) (F := (fun g => fs3 ad b g)) (fun g => so_11 hb J ad g) rfl hdg kk
theorem fg_X7_167 {b : Nat} (hb : IsB b) (X : Cx p c cc s m RX7 args nL) (h : HG J z ad s G H locs) (hdg : decode cc pc = .ok (.getfield 167, 3)) (kk : W p l e R s m args below meth c H locs cells slots Q (F0 m (pc + 3) ls (.ref (ad (b + 13)) :: rest))) : W p l e R s m args below meth c H locs cells slots Q (F0 m pc ls (.ref (ad (b + 11)) :: rest)) :=
  rg_get X h (ci := 3) in0_X3 rfl 2 (by decide) mw_635 (b + 11) (hb.lt (c := 11) (by decide)) (F := (fun g => fs3 ad b g)) (fun g => so_11 hb J ad g) rfl hdg kk
theorem fg_X7_170 {b : Nat} (hb : IsB b) (X : Cx p c cc s m RX7 args nL) (h : HG J z ad s G H locs) (hdg : decode cc pc = .ok (.getfield 170, 3)) (kk : W p l e R s m args below meth c H locs cells slots Q (F0 m (pc + 3) ls (.ref (ad (b + 14)) :: rest))) : W p l e R s m args below meth c H locs cells slots Q (F0 m pc ls (.ref (ad (b + 11)) :: rest)) :=
  rg_get X h (ci := 3) in0_X3 rfl 3 (by decide) mw_636 (b + 11) (hb.lt (c := 11) (by decide)) (F := (fun g => fs3 ad b g)) (fun g => so_11 hb J ad g) rfl hdg kk
theorem fg_X7_173 {b : Nat} (hb : IsB b) (X : Cx p c cc s m RX7 args nL) (h : HG J z ad s G H locs) (hdg : decode cc pc = .ok (.getfield 173, 3)) (kk : W p l e R s m args below meth c H locs cells slots Q (F0 m (pc + 3) ls (.ref (ad (b + 15)) :: rest))) : W p l e R s m args below meth c H locs cells slots Q (F0 m pc ls (.ref (ad (b + 11)) :: rest)) :=
  rg_get X h (ci := 3) in0_X3 rfl 4 (by decide) mw_637 (b + 11) (hb.lt (c := 11) (by decide)) (F := (fun g => fs3 ad b g)) (fun g => so_11 hb J ad g) rfl hdg kk
theorem fg_X7_176 {b : Nat} (hb : IsB b) (X : Cx p c cc s m RX7 args nL) (h : HG J z ad s G H locs) (hdg : decode cc pc = .ok (.getfield 176, 3)) (kk : W p l e R s m args below meth c H locs cells slots Q (F0 m (pc + 3) ls (.ref (ad (b + 16)) :: rest))) : W p l e R s m args below meth c H locs cells slots Q (F0 m pc ls (.ref (ad (b + 11)) :: rest)) :=
  rg_get X h (ci := 3) in0_X3 rfl 5 (by decide) mw_638 (b + 11) (hb.lt (c := 11) (by decide)) (F := (fun g => fs3 ad b g)) (fun g => so_11 hb J ad g) rfl hdg kk
theorem fg_X7_179 {b : Nat} (hb : IsB b) (X : Cx p c cc s m RX7 args nL) (h : HG J z ad s G H locs) (hdg : decode cc pc = .ok (.getfield 179, 3)) (kk : W p l e R s m args below meth c H locs cells slots Q (F0 m (pc + 3) ls (.ref (ad (b + 17)) :: rest))) : W p l e R s m args below meth c H locs cells slots Q (F0 m pc ls (.ref (ad (b + 11)) :: rest)) :=
  rg_get X h (ci := 3) in0_X3 rfl 6 (by decide) mw_639 (b + 11) (hb.lt (c := 11) (by decide)) (F := (fun g => fs3 ad b g)) (fun g => so_11 hb J ad g) rfl hdg kk
theorem fg_X7_19 (X : Cx p c cc s m RX7 args nL) (h : HG J z ad s G H locs) (hdg : decode cc pc = .ok (.getfield 19, 3)) (kk : W p l e R s m args below meth c H locs cells slots Q (F0 m (pc + 3) ls (.ref (ad 51) :: rest))) : W p l e R s m args below meth c H locs cells slots Q (F0 m pc ls (.ref (ad 0) :: rest)) :=
  rg_get X h (ci := 7) in0_X7 rfl 2 (by decide) mw_17 0 (by decide) (F := (fun g => fs7 ad g)) (fun g => xo_0 J ad g) rfl hdg kk
theorem fg_X7_204 {b : Nat} (hb : IsB b) (X : Cx p c cc s m RX7 args nL) (h : HG J z ad s G H locs) (hdg : decode cc pc = .ok (.getfield 204, 3)) (kk : W p l e R s m args below meth c H locs cells slots Q (F0 m (pc + 3) ls (.ref (ad (b + 24)) :: rest))) : W p l e R s m args below meth c H locs cells slots Q (F0 m pc ls (.ref (ad b) :: rest)) :=
  rg_get X h (ci := 5) in0_X5 rfl 9 (by decide) mw_688 b (hb.lt (c := 0) (by decide)) (F := (fun g => fs5 ad b g)) (fun g => so_0 hb J ad g) rfl hdg kk
theorem fg_X7_207 {b : Nat} (hb : IsB b) (X : Cx p c cc s m RX7 args nL) (h : HG J z ad s G H locs) (hdg : decode cc pc = .ok (.getfield 207, 3)) (kk : W p l e R s m args below meth c H locs cells slots Q (F0 m (pc + 3) ls (.int (G (b + 11) 0) :: rest))) : W p l e R s m args below meth c H locs cells slots Q (F0 m pc ls (.ref (ad (b + 11)) :: rest)) :=
  rg_get X h (ci := 3) in0_X3 rfl 0 (by decide) mw_702 (b + 11) (hb.lt (c := 11) (by decide)) (F := (fun g => fs3 ad b g)) (fun g => so_11 hb J ad g) rfl hdg kk
theorem fg_X7_212 {b : Nat} (hb : IsB b) (X : Cx p c cc s m RX7 args nL) (h : HG J z ad s G H locs) (hdg : decode cc pc = .ok (.getfield 212, 3)) (kk : W p l e R s m args below meth c H locs cells slots Q (F0 m (pc + 3) ls (.int (G (b + 1) 0) :: rest))) : W p l e R s m args below meth c H locs cells slots Q (F0 m pc ls (.ref (ad (b + 1)) :: rest)) :=
  rg_get X h (ci := 6) in0_X6 rfl 0 (by decide) mw_720 (b + 1) (hb.lt (c := 1) (by decide)) (F := (fun g => fs6 ad b g)) (fun g => so_1 hb J ad g) rfl hdg kk
theorem fg_X7_222 {b : Nat} (hb : IsB b) (X : Cx p c cc s m RX7 args nL) (h : HG J z ad s G H locs) (hdg : decode cc pc = .ok (.getfield 222, 3)) (kk : W p l e R s m args below meth c H locs cells slots Q (F0 m (pc + 3) ls (.int (G b 5) :: rest))) : W p l e R s m args below meth c H locs cells slots Q (F0 m pc ls (.ref (ad b) :: rest)) :=
  rg_get X h (ci := 5) in0_X5 rfl 5 (by decide) mw_754 b (hb.lt (c := 0) (by decide)) (F := (fun g => fs5 ad b g)) (fun g => so_0 hb J ad g) rfl hdg kk
theorem fg_X7_225 {b : Nat} (hb : IsB b) (X : Cx p c cc s m RX7 args nL) (h : HG J z ad s G H locs) (hdg : decode cc pc = .ok (.getfield 225, 3)) (kk : W p l e R s m args below meth c H locs cells slots Q (F0 m (pc + 3) ls (.int (G b 6) :: rest))) : W p l e R s m args below meth c H locs cells slots Q (F0 m pc ls (.ref (ad b) :: rest)) :=
  rg_get X h (ci := 5) in0_X5 rfl 6 (by decide) mw_755 b (hb.lt (c := 0) (by decide)) (F := (fun g => fs5 ad b g)) (fun g => so_0 hb J ad g) rfl hdg kk
theorem fg_X7_227 {b : Nat} (hb : IsB b) (X : Cx p c cc s m RX7 args nL) (h : HG J z ad s G H locs) (hdg : decode cc pc = .ok (.getfield 227, 3)) (kk : W p l e R s m args below meth c H locs cells slots Q (F0 m (pc + 3) ls (.int (G b 7) :: rest))) : W p l e R s m args below meth c H locs cells slots Q (F0 m pc ls (.ref (ad b) :: rest)) :=
  rg_get X h (ci := 5) in0_X5 rfl 7 (by decide) mw_756 b (hb.lt (c := 0) (by decide)) (F := (fun g => fs5 ad b g)) (fun g => so_0 hb J ad g) rfl hdg kk
theorem fg_X7_237 {b : Nat} (hb : IsB b) (X : Cx p c cc s m RX7 args nL) (h : HG J z ad s G H locs) (hdg : decode cc pc = .ok (.getfield 237, 3)) (kk : W p l e R s m args below meth c H locs cells slots Q (F0 m (pc + 3) ls (.int (G b 8) :: rest))) : W p l e R s m args below meth c H locs cells slots Q (F0 m pc ls (.ref (ad b) :: rest)) :=
  rg_get X h (ci := 5) in0_X5 rfl 8 (by decide) mw_757 b (hb.lt (c := 0) (by decide)) (F := (fun g => fs5 ad b g)) (fun g => so_0 hb J ad g) rfl hdg kk
theorem fg_X7_243 {b : Nat} (hb : IsB b) (X : Cx p c cc s m RX7 args nL) (h : HG J z ad s G H locs) (hdg : decode cc pc = .ok (.getfield 243, 3)) (kk : W p l e R s m args below meth c H locs cells slots Q (F0 m (pc + 3) ls (.ref (ad (b + 23)) :: rest))) : W p l e R s m args below meth c H locs cells slots Q (F0 m pc ls (.ref (ad b) :: rest)) :=
  rg_get X h (ci := 5) in0_X5 rfl 4 (by decide) mw_758 b (hb.lt (c := 0) (by decide)) (F := (fun g => fs5 ad b g)) (fun g => so_0 hb J ad g) rfl hdg kk
theorem fg_X7_246 (X : Cx p c cc s m RX7 args nL) (h : HG J z ad s G H locs) (hdg : decode cc pc = .ok (.getfield 246, 3)) (kk : W p l e R s m args below meth c H locs cells slots Q (F0 m (pc + 3) ls (.int (G 101 2) :: rest))) : W p l e R s m args below meth c H locs cells slots Q (F0 m pc ls (.ref (ad 101) :: rest)) :=
  rg_get X h (ci := 0) in0_X0 rfl 2 (by decide) mw_759 101 (by decide) (F := (fun g => fs0 ad g)) (fun g => xo_101 J ad g) rfl hdg kk
theorem fg_X7_247 (X : Cx p c cc s m RX7 args nL) (h : HG J z ad s G H locs) (hdg : decode cc pc = .ok (.getfield 247, 3)) (kk : W p l e R s m args below meth c H locs cells slots Q (F0 m (pc + 3) ls (.int (G 203 1) :: rest))) : W p l e R s m args below meth c H locs cells slots Q (F0 m pc ls (.ref (ad 203) :: rest)) :=
  rg_get X h (ci := 2) in0_X2 rfl 1 (by decide) mw_760 203 (by decide) (F := (fun g => fs2 ad g)) (fun g => xo_203 J ad g) rfl hdg kk
theorem fg_X7_253 (X : Cx p c cc s m RX7 args nL) (h : HG J z ad s G H locs) (hdg : decode cc pc = .ok (.getfield 253, 3)) (kk : W p l e R s m args below meth c H locs cells slots Q (F0 m (pc + 3) ls (.ref (ad 205) :: rest))) : W p l e R s m args below meth c H locs cells slots Q (F0 m pc ls (.ref (ad 203) :: rest)) :=
  rg_get X h (ci := 2) in0_X2 rfl 4 (by decide) mw_491 203 (by decide) (F := (fun g => fs2 ad g)) (fun g => xo_203 J ad g) rfl hdg kk
theorem fg_X7_256 (X : Cx p c cc s m RX7 args nL) (h : HG J z ad s G H locs) (hdg : decode cc pc = .ok (.getfield 256, 3)) (kk : W p l e R s m args below meth c H locs cells slots Q (F0 m (pc + 3) ls (.ref (ad 206) :: rest))) : W p l e R s m args below meth c H locs cells slots Q (F0 m pc ls (.ref (ad 203) :: rest)) :=
  rg_get X h (ci := 2) in0_X2 rfl 5 (by decide) mw_492 203 (by decide) (F := (fun g => fs2 ad g)) (fun g => xo_203 J ad g) rfl hdg kk
theorem fg_X7_257 (X : Cx p c cc s m RX7 args nL) (h : HG J z ad s G H locs) (hdg : decode cc pc = .ok (.getfield 257, 3)) (kk : W p l e R s m args below meth c H locs cells slots Q (F0 m (pc + 3) ls (.ref (ad 207) :: rest))) : W p l e R s m args below meth c H locs cells slots Q (F0 m pc ls (.ref (ad 203) :: rest)) :=
  rg_get X h (ci := 2) in0_X2 rfl 6 (by decide) mw_493 203 (by decide) (F := (fun g => fs2 ad g)) (fun g => xo_203 J ad g) rfl hdg kk
theorem fg_X7_260 (X : Cx p c cc s m RX7 args nL) (h : HG J z ad s G H locs) (hdg : decode cc pc = .ok (.getfield 260, 3)) (kk : W p l e R s m args below meth c H locs cells slots Q (F0 m (pc + 3) ls (.ref (ad 208) :: rest))) : W p l e R s m args below meth c H locs cells slots Q (F0 m pc ls (.ref (ad 203) :: rest)) :=
  rg_get X h (ci := 2) in0_X2 rfl 7 (by decide) mw_494 203 (by decide) (F := (fun g => fs2 ad g)) (fun g => xo_203 J ad g) rfl hdg kk
theorem fg_X7_261 (X : Cx p c cc s m RX7 args nL) (h : HG J z ad s G H locs) (hdg : decode cc pc = .ok (.getfield 261, 3)) (kk : W p l e R s m args below meth c H locs cells slots Q (F0 m (pc + 3) ls (.ref (ad 209) :: rest))) : W p l e R s m args below meth c H locs cells slots Q (F0 m pc ls (.ref (ad 203) :: rest)) :=
  rg_get X h (ci := 2) in0_X2 rfl 8 (by decide) mw_495 203 (by decide) (F := (fun g => fs2 ad g)) (fun g => xo_203 J ad g) rfl hdg kk
theorem fp_X8_16 (X : Cx p c cc s m RX8 args nL) (h : HG J z ad s G H locs) {v : Int32} (hdg : decode cc pc = .ok (.putfield 16, 3)) (kk : ∀ (H1 : Heap) (locs1 : List Loc), HG J z ad s (u1 G 210 (upd (G 210) 5 v)) H1 locs1 → W p l e R s m args below meth c H1 locs1 cells slots Q (F0 m (pc + 3) ls rest)) : W p l e R s m args below meth c H locs cells slots Q (F0 m pc ls (.int v :: .ref (ad 210) :: rest)) :=
  rg_put X h (ci := 8) in0_X8 tyX8 tyX8_ok nmX8 rfl 5 (by decide) mw_108 rfl 210 (by decide) (F := (fun g => fs8 ad g)) (fun g => xo_210 J ad g) (fun _ => Nat.le_of_ble_eq_true rfl) (fun _ => rfl) rfl rfl hdg kk
theorem fp_X8_20 (X : Cx p c cc s m RX8 args nL) (h : HG J z ad s G H locs) {v : Int32} (hdg : decode cc pc = .ok (.putfield 20, 3)) (kk : ∀ (H1 : Heap) (locs1 : List Loc), HG J z ad s (u1 G 210 (upd (G 210) 6 v)) H1 locs1 → W p l e R s m args below meth c H1 locs1 cells slots Q (F0 m (pc + 3) ls rest)) : W p l e R s m args below meth c H locs cells slots Q (F0 m pc ls (.int v :: .ref (ad 210) :: rest)) :=
  rg_put X h (ci := 8) in0_X8 tyX8 tyX8_ok nmX8 rfl 6 (by decide) mw_109 rfl 210 (by decide) (F := (fun g => fs8 ad g)) (fun g => xo_210 J ad g) (fun _ => Nat.le_of_ble_eq_true rfl) (fun _ => rfl) rfl rfl hdg kk
theorem fg_X8_7 (X : Cx p c cc s m RX8 args nL) (h : HG J z ad s G H locs) (hdg : decode cc pc = .ok (.getfield 7, 3)) (kk : W p l e R s m args below meth c H locs cells slots Q (F0 m (pc + 3) ls (.ref (ad 211) :: rest))) : W p l e R s m args below meth c H locs cells slots Q (F0 m pc ls (.ref (ad 210) :: rest)) :=
  rg_get X h (ci := 8) in0_X8 rfl 0 (by decide) mw_106 210 (by decide) (F := (fun g => fs8 ad g)) (fun g => xo_210 J ad g) rfl hdg kk
theorem fg_X8_29 (X : Cx p c cc s m RX8 args nL) (h : HG J z ad s G H locs) (hdg : decode cc pc = .ok (.getfield 29, 3)) (kk : W p l e R s m args below meth c H locs cells slots Q (F0 m (pc + 3) ls (.int (G 210 1) :: rest))) : W p l e R s m args below meth c H locs cells slots Q (F0 m pc ls (.ref (ad 210) :: rest)) :=
  rg_get X h (ci := 8) in0_X8 rfl 1 (by decide) mw_201 210 (by decide) (F := (fun g => fs8 ad g)) (fun g => xo_210 J ad g) rfl hdg kk
theorem fp_X8_29 (X : Cx p c cc s m RX8 args nL) (h : HG J z ad s G H locs) {v : Int32} (hdg : decode cc pc = .ok (.putfield 29, 3)) (kk : ∀ (H1 : Heap) (locs1 : List Loc), HG J z ad s (u1 G 210 (upd (G 210) 1 v)) H1 locs1 → W p l e R s m args below meth c H1 locs1 cells slots Q (F0 m (pc + 3) ls rest)) : W p l e R s m args below meth c H locs cells slots Q (F0 m pc ls (.int v :: .ref (ad 210) :: rest)) :=
  rg_put X h (ci := 8) in0_X8 tyX8 tyX8_ok nmX8 rfl 1 (by decide) mw_201 rfl 210 (by decide) (F := (fun g => fs8 ad g)) (fun g => xo_210 J ad g) (fun _ => Nat.le_of_ble_eq_true rfl) (fun _ => rfl) rfl rfl hdg kk
theorem fg_X8_23 (X : Cx p c cc s m RX8 args nL) (h : HG J z ad s G H locs) (hdg : decode cc pc = .ok (.getfield 23, 3)) (kk : W p l e R s m args below meth c H locs cells slots Q (F0 m (pc + 3) ls (.ref (ad 213) :: rest))) : W p l e R s m args below meth c H locs cells slots Q (F0 m pc ls (.ref (ad 210) :: rest)) :=
  rg_get X h (ci := 8) in0_X8 rfl 7 (by decide) mw_110 210 (by decide) (F := (fun g => fs8 ad g)) (fun g => xo_210 J ad g) rfl hdg kk
theorem fg_X8_26 (X : Cx p c cc s m RX8 args nL) (h : HG J z ad s G H locs) (hdg : decode cc pc = .ok (.getfield 26, 3)) (kk : W p l e R s m args below meth c H locs cells slots Q (F0 m (pc + 3) ls (.ref (ad 214) :: rest))) : W p l e R s m args below meth c H locs cells slots Q (F0 m pc ls (.ref (ad 210) :: rest)) :=
  rg_get X h (ci := 8) in0_X8 rfl 8 (by decide) mw_111 210 (by decide) (F := (fun g => fs8 ad g)) (fun g => xo_210 J ad g) rfl hdg kk
theorem fg_X8_121 (X : Cx p c cc s m RX8 args nL) (h : HG J z ad s G H locs) (hdg : decode cc pc = .ok (.getfield 121, 3)) (kk : W p l e R s m args below meth c H locs cells slots Q (F0 m (pc + 3) ls (.int (G 210 4) :: rest))) : W p l e R s m args below meth c H locs cells slots Q (F0 m pc ls (.ref (ad 210) :: rest)) :=
  rg_get X h (ci := 8) in0_X8 rfl 4 (by decide) mw_433 210 (by decide) (F := (fun g => fs8 ad g)) (fun g => xo_210 J ad g) rfl hdg kk
theorem fg_X8_13 (X : Cx p c cc s m RX8 args nL) (h : HG J z ad s G H locs) (hdg : decode cc pc = .ok (.getfield 13, 3)) (kk : W p l e R s m args below meth c H locs cells slots Q (F0 m (pc + 3) ls (.ref (ad 212) :: rest))) : W p l e R s m args below meth c H locs cells slots Q (F0 m pc ls (.ref (ad 210) :: rest)) :=
  rg_get X h (ci := 8) in0_X8 rfl 3 (by decide) mw_107 210 (by decide) (F := (fun g => fs8 ad g)) (fun g => xo_210 J ad g) rfl hdg kk
theorem fp_X8_121 (X : Cx p c cc s m RX8 args nL) (h : HG J z ad s G H locs) {v : Int32} (hdg : decode cc pc = .ok (.putfield 121, 3)) (kk : ∀ (H1 : Heap) (locs1 : List Loc), HG J z ad s (u1 G 210 (upd (G 210) 4 v)) H1 locs1 → W p l e R s m args below meth c H1 locs1 cells slots Q (F0 m (pc + 3) ls rest)) : W p l e R s m args below meth c H locs cells slots Q (F0 m pc ls (.int v :: .ref (ad 210) :: rest)) :=
  rg_put X h (ci := 8) in0_X8 tyX8 tyX8_ok nmX8 rfl 4 (by decide) mw_433 rfl 210 (by decide) (F := (fun g => fs8 ad g)) (fun g => xo_210 J ad g) (fun _ => Nat.le_of_ble_eq_true rfl) (fun _ => rfl) rfl rfl hdg kk
theorem fg_X8_124 (X : Cx p c cc s m RX8 args nL) (h : HG J z ad s G H locs) (hdg : decode cc pc = .ok (.getfield 124, 3)) (kk : W p l e R s m args below meth c H locs cells slots Q (F0 m (pc + 3) ls (.int (G 210 9) :: rest))) : W p l e R s m args below meth c H locs cells slots Q (F0 m pc ls (.ref (ad 210) :: rest)) :=
  rg_get X h (ci := 8) in0_X8 rfl 9 (by decide) mw_500 210 (by decide) (F := (fun g => fs8 ad g)) (fun g => xo_210 J ad g) rfl hdg kk
theorem fp_X8_124 (X : Cx p c cc s m RX8 args nL) (h : HG J z ad s G H locs) {v : Int32} (hdg : decode cc pc = .ok (.putfield 124, 3)) (kk : ∀ (H1 : Heap) (locs1 : List Loc), HG J z ad s (u1 G 210 (upd (G 210) 9 v)) H1 locs1 → W p l e R s m args below meth c H1 locs1 cells slots Q (F0 m (pc + 3) ls rest)) : W p l e R s m args below meth c H locs cells slots Q (F0 m pc ls (.int v :: .ref (ad 210) :: rest)) :=
  rg_put X h (ci := 8) in0_X8 tyX8 tyX8_ok nmX8 rfl 9 (by decide) mw_500 rfl 210 (by decide) (F := (fun g => fs8 ad g)) (fun g => xo_210 J ad g) (fun _ => Nat.le_of_ble_eq_true rfl) (fun _ => rfl) rfl rfl hdg kk
theorem fp_X8_134 (X : Cx p c cc s m RX8 args nL) (h : HG J z ad s G H locs) {v : Int32} (hdg : decode cc pc = .ok (.putfield 134, 3)) (kk : ∀ (H1 : Heap) (locs1 : List Loc), HG J z ad s (u1 G 210 (upd (G 210) 11 v)) H1 locs1 → W p l e R s m args below meth c H1 locs1 cells slots Q (F0 m (pc + 3) ls rest)) : W p l e R s m args below meth c H locs cells slots Q (F0 m pc ls (.int v :: .ref (ad 210) :: rest)) :=
  rg_put X h (ci := 8) in0_X8 tyX8 tyX8_ok nmX8 rfl 11 (by decide) mw_510 rfl 210 (by decide) (F := (fun g => fs8 ad g)) (fun g => xo_210 J ad g) (fun _ => Nat.le_of_ble_eq_true rfl) (fun _ => rfl) rfl rfl hdg kk
theorem fg_X8_134 (X : Cx p c cc s m RX8 args nL) (h : HG J z ad s G H locs) (hdg : decode cc pc = .ok (.getfield 134, 3)) (kk : W p l e R s m args below meth c H locs cells slots Q (F0 m (pc + 3) ls (.int (G 210 11) :: rest))) : W p l e R s m args below meth c H locs cells slots Q (F0 m pc ls (.ref (ad 210) :: rest)) :=
  rg_get X h (ci := 8) in0_X8 rfl 11 (by decide) mw_510 210 (by decide) (F := (fun g => fs8 ad g)) (fun g => xo_210 J ad g) rfl hdg kk
theorem fp_X8_140 (X : Cx p c cc s m RX8 args nL) (h : HG J z ad s G H locs) {v : Int32} (hdg : decode cc pc = .ok (.putfield 140, 3)) (kk : ∀ (H1 : Heap) (locs1 : List Loc), HG J z ad s (u1 G 210 (upd (G 210) 12 v)) H1 locs1 → W p l e R s m args below meth c H1 locs1 cells slots Q (F0 m (pc + 3) ls rest)) : W p l e R s m args below meth c H locs cells slots Q (F0 m pc ls (.int v :: .ref (ad 210) :: rest)) :=
  rg_put X h (ci := 8) in0_X8 tyX8 tyX8_ok nmX8 rfl 12 (by decide) mw_511 rfl 210 (by decide) (F := (fun g => fs8 ad g)) (fun g => xo_210 J ad g) (fun _ => Nat.le_of_ble_eq_true rfl) (fun _ => rfl) rfl rfl hdg kk
theorem fg_X8_140 (X : Cx p c cc s m RX8 args nL) (h : HG J z ad s G H locs) (hdg : decode cc pc = .ok (.getfield 140, 3)) (kk : W p l e R s m args below meth c H locs cells slots Q (F0 m (pc + 3) ls (.int (G 210 12) :: rest))) : W p l e R s m args below meth c H locs cells slots Q (F0 m pc ls (.ref (ad 210) :: rest)) :=
  rg_get X h (ci := 8) in0_X8 rfl 12 (by decide) mw_511 210 (by decide) (F := (fun g => fs8 ad g)) (fun g => xo_210 J ad g) rfl hdg kk
theorem fp_X8_143 (X : Cx p c cc s m RX8 args nL) (h : HG J z ad s G H locs) {v : Int32} (hdg : decode cc pc = .ok (.putfield 143, 3)) (kk : ∀ (H1 : Heap) (locs1 : List Loc), HG J z ad s (u1 G 210 (upd (G 210) 13 v)) H1 locs1 → W p l e R s m args below meth c H1 locs1 cells slots Q (F0 m (pc + 3) ls rest)) : W p l e R s m args below meth c H locs cells slots Q (F0 m pc ls (.int v :: .ref (ad 210) :: rest)) :=
  rg_put X h (ci := 8) in0_X8 tyX8 tyX8_ok nmX8 rfl 13 (by decide) mw_516 rfl 210 (by decide) (F := (fun g => fs8 ad g)) (fun g => xo_210 J ad g) (fun _ => Nat.le_of_ble_eq_true rfl) (fun _ => rfl) rfl rfl hdg kk
theorem fg_X8_143 (X : Cx p c cc s m RX8 args nL) (h : HG J z ad s G H locs) (hdg : decode cc pc = .ok (.getfield 143, 3)) (kk : W p l e R s m args below meth c H locs cells slots Q (F0 m (pc + 3) ls (.int (G 210 13) :: rest))) : W p l e R s m args below meth c H locs cells slots Q (F0 m pc ls (.ref (ad 210) :: rest)) :=
  rg_get X h (ci := 8) in0_X8 rfl 13 (by decide) mw_516 210 (by decide) (F := (fun g => fs8 ad g)) (fun g => xo_210 J ad g) rfl hdg kk
theorem fp_X8_146 (X : Cx p c cc s m RX8 args nL) (h : HG J z ad s G H locs) {v : Int32} (hdg : decode cc pc = .ok (.putfield 146, 3)) (kk : ∀ (H1 : Heap) (locs1 : List Loc), HG J z ad s (u1 G 210 (upd (G 210) 14 v)) H1 locs1 → W p l e R s m args below meth c H1 locs1 cells slots Q (F0 m (pc + 3) ls rest)) : W p l e R s m args below meth c H locs cells slots Q (F0 m pc ls (.int v :: .ref (ad 210) :: rest)) :=
  rg_put X h (ci := 8) in0_X8 tyX8 tyX8_ok nmX8 rfl 14 (by decide) mw_517 rfl 210 (by decide) (F := (fun g => fs8 ad g)) (fun g => xo_210 J ad g) (fun _ => Nat.le_of_ble_eq_true rfl) (fun _ => rfl) rfl rfl hdg kk
theorem fg_X8_146 (X : Cx p c cc s m RX8 args nL) (h : HG J z ad s G H locs) (hdg : decode cc pc = .ok (.getfield 146, 3)) (kk : W p l e R s m args below meth c H locs cells slots Q (F0 m (pc + 3) ls (.int (G 210 14) :: rest))) : W p l e R s m args below meth c H locs cells slots Q (F0 m pc ls (.ref (ad 210) :: rest)) :=
  rg_get X h (ci := 8) in0_X8 rfl 14 (by decide) mw_517 210 (by decide) (F := (fun g => fs8 ad g)) (fun g => xo_210 J ad g) rfl hdg kk
theorem fp_X8_149 (X : Cx p c cc s m RX8 args nL) (h : HG J z ad s G H locs) {v : Int32} (hdg : decode cc pc = .ok (.putfield 149, 3)) (kk : ∀ (H1 : Heap) (locs1 : List Loc), HG J z ad s (u1 G 210 (upd (G 210) 10 v)) H1 locs1 → W p l e R s m args below meth c H1 locs1 cells slots Q (F0 m (pc + 3) ls rest)) : W p l e R s m args below meth c H locs cells slots Q (F0 m pc ls (.int v :: .ref (ad 210) :: rest)) :=
  rg_put X h (ci := 8) in0_X8 tyX8 tyX8_ok nmX8 rfl 10 (by decide) mw_509 rfl 210 (by decide) (F := (fun g => fs8 ad g)) (fun g => xo_210 J ad g) (fun _ => Nat.le_of_ble_eq_true rfl) (fun _ => rfl) rfl rfl hdg kk
theorem fg_X8_149 (X : Cx p c cc s m RX8 args nL) (h : HG J z ad s G H locs) (hdg : decode cc pc = .ok (.getfield 149, 3)) (kk : W p l e R s m args below meth c H locs cells slots Q (F0 m (pc + 3) ls (.int (G 210 10) :: rest))) : W p l e R s m args below meth c H locs cells slots Q (F0 m pc ls (.ref (ad 210) :: rest)) :=
  rg_get X h (ci := 8) in0_X8 rfl 10 (by decide) mw_509 210 (by decide) (F := (fun g => fs8 ad g)) (fun g => xo_210 J ad g) rfl hdg kk
theorem fg_X8_16 (X : Cx p c cc s m RX8 args nL) (h : HG J z ad s G H locs) (hdg : decode cc pc = .ok (.getfield 16, 3)) (kk : W p l e R s m args below meth c H locs cells slots Q (F0 m (pc + 3) ls (.int (G 210 5) :: rest))) : W p l e R s m args below meth c H locs cells slots Q (F0 m pc ls (.ref (ad 210) :: rest)) :=
  rg_get X h (ci := 8) in0_X8 rfl 5 (by decide) mw_108 210 (by decide) (F := (fun g => fs8 ad g)) (fun g => xo_210 J ad g) rfl hdg kk
theorem fg_X8_20 (X : Cx p c cc s m RX8 args nL) (h : HG J z ad s G H locs) (hdg : decode cc pc = .ok (.getfield 20, 3)) (kk : W p l e R s m args below meth c H locs cells slots Q (F0 m (pc + 3) ls (.int (G 210 6) :: rest))) : W p l e R s m args below meth c H locs cells slots Q (F0 m pc ls (.ref (ad 210) :: rest)) :=
  rg_get X h (ci := 8) in0_X8 rfl 6 (by decide) mw_109 210 (by decide) (F := (fun g => fs8 ad g)) (fun g => xo_210 J ad g) rfl hdg kk
theorem fp_X8_166 (X : Cx p c cc s m RX8 args nL) (h : HG J z ad s G H locs) {v : Int32} (hn : narrow .boolean (.int v) = .int v) (hfit : fits .boolean (.int v) = true) (hdg : decode cc pc = .ok (.putfield 166, 3)) (kk : ∀ (H1 : Heap) (locs1 : List Loc), HG J z ad s (u1 G 210 (upd (G 210) 2 v)) H1 locs1 → W p l e R s m args below meth c H1 locs1 cells slots Q (F0 m (pc + 3) ls rest)) : W p l e R s m args below meth c H locs cells slots Q (F0 m pc ls (.int v :: .ref (ad 210) :: rest)) :=
  rg_put X h (ci := 8) in0_X8 tyX8 tyX8_ok nmX8 rfl 2 (by decide) mw_572 rfl 210 (by decide) (F := (fun g => fs8 ad g)) (fun g => xo_210 J ad g) (fun _ => Nat.le_of_ble_eq_true rfl) (fun _ => rfl) hn hfit hdg kk
theorem fg_X8_166 (X : Cx p c cc s m RX8 args nL) (h : HG J z ad s G H locs) (hdg : decode cc pc = .ok (.getfield 166, 3)) (kk : W p l e R s m args below meth c H locs cells slots Q (F0 m (pc + 3) ls (.int (G 210 2) :: rest))) : W p l e R s m args below meth c H locs cells slots Q (F0 m pc ls (.ref (ad 210) :: rest)) :=
  rg_get X h (ci := 8) in0_X8 rfl 2 (by decide) mw_572 210 (by decide) (F := (fun g => fs8 ad g)) (fun g => xo_210 J ad g) rfl hdg kk
theorem fg_X0_11 (X : Cx p c cc s m RX0 args nL) (h : HG J z ad s G H locs) (hdg : decode cc pc = .ok (.getfield 11, 3)) (kk : W p l e R s m args below meth c H locs cells slots Q (F0 m (pc + 3) ls (.ref (ad 102) :: rest))) : W p l e R s m args below meth c H locs cells slots Q (F0 m pc ls (.ref (ad 101) :: rest)) :=
  rg_get X h (ci := 0) in0_X0 rfl 0 (by decide) mw_89 101 (by decide) (F := (fun g => fs0 ad g)) (fun g => xo_101 J ad g) rfl hdg kk
theorem fg_X0_18 (X : Cx p c cc s m RX0 args nL) (h : HG J z ad s G H locs) (hdg : decode cc pc = .ok (.getfield 18, 3)) (kk : W p l e R s m args below meth c H locs cells slots Q (F0 m (pc + 3) ls (.int (G 101 2) :: rest))) : W p l e R s m args below meth c H locs cells slots Q (F0 m pc ls (.ref (ad 101) :: rest)) :=
  rg_get X h (ci := 0) in0_X0 rfl 2 (by decide) mw_169 101 (by decide) (F := (fun g => fs0 ad g)) (fun g => xo_101 J ad g) rfl hdg kk
theorem fg_X0_22 (X : Cx p c cc s m RX0 args nL) (h : HG J z ad s G H locs) (hdg : decode cc pc = .ok (.getfield 22, 3)) (kk : W p l e R s m args below meth c H locs cells slots Q (F0 m (pc + 3) ls (.int (G 101 1) :: rest))) : W p l e R s m args below meth c H locs cells slots Q (F0 m pc ls (.ref (ad 101) :: rest)) :=
  rg_get X h (ci := 0) in0_X0 rfl 1 (by decide) mw_170 101 (by decide) (F := (fun g => fs0 ad g)) (fun g => xo_101 J ad g) rfl hdg kk
theorem fp_X0_22 (X : Cx p c cc s m RX0 args nL) (h : HG J z ad s G H locs) {v : Int32} (hdg : decode cc pc = .ok (.putfield 22, 3)) (kk : ∀ (H1 : Heap) (locs1 : List Loc), HG J z ad s (u1 G 101 (upd (G 101) 1 v)) H1 locs1 → W p l e R s m args below meth c H1 locs1 cells slots Q (F0 m (pc + 3) ls rest)) : W p l e R s m args below meth c H locs cells slots Q (F0 m pc ls (.int v :: .ref (ad 101) :: rest)) :=
  rg_put X h (ci := 0) in0_X0 tyX0 tyX0_ok nmX0 rfl 1 (by decide) mw_170 rfl 101 (by decide) (F := (fun g => fs0 ad g)) (fun g => xo_101 J ad g) (fun _ => Nat.le_of_ble_eq_true rfl) (fun _ => rfl) rfl rfl hdg kk
theorem fp_X0_18 (X : Cx p c cc s m RX0 args nL) (h : HG J z ad s G H locs) {v : Int32} (hdg : decode cc pc = .ok (.putfield 18, 3)) (kk : ∀ (H1 : Heap) (locs1 : List Loc), HG J z ad s (u1 G 101 (upd (G 101) 2 v)) H1 locs1 → W p l e R s m args below meth c H1 locs1 cells slots Q (F0 m (pc + 3) ls rest)) : W p l e R s m args below meth c H locs cells slots Q (F0 m pc ls (.int v :: .ref (ad 101) :: rest)) :=
  rg_put X h (ci := 0) in0_X0 tyX0 tyX0_ok nmX0 rfl 2 (by decide) mw_169 rfl 101 (by decide) (F := (fun g => fs0 ad g)) (fun g => xo_101 J ad g) (fun _ => Nat.le_of_ble_eq_true rfl) (fun _ => rfl) rfl rfl hdg kk
theorem fg_X1_9 {b : Nat} (hb : IsB b) (X : Cx p c cc s m RX1 args nL) (h : HG J z ad s G H locs) (hdg : decode cc pc = .ok (.getfield 9, 3)) (kk : W p l e R s m args below meth c H locs cells slots Q (F0 m (pc + 3) ls (.ref (ad (b + 8)) :: rest))) : W p l e R s m args below meth c H locs cells slots Q (F0 m pc ls (.ref (ad (b + 7)) :: rest)) :=
  rg_get X h (ci := 1) in0_X1 rfl 0 (by decide) mw_63 (b + 7) (hb.lt (c := 7) (by decide)) (F := (fun g => fs1 ad b g)) (fun g => so_7 hb J ad g) rfl hdg kk
theorem fg_X1_15 {b : Nat} (hb : IsB b) (X : Cx p c cc s m RX1 args nL) (h : HG J z ad s G H locs) (hdg : decode cc pc = .ok (.getfield 15, 3)) (kk : W p l e R s m args below meth c H locs cells slots Q (F0 m (pc + 3) ls (.ref (ad (b + 9)) :: rest))) : W p l e R s m args below meth c H locs cells slots Q (F0 m pc ls (.ref (ad (b + 7)) :: rest)) :=
  rg_get X h (ci := 1) in0_X1 rfl 1 (by decide) mw_64 (b + 7) (hb.lt (c := 7) (by decide)) (F := (fun g => fs1 ad b g)) (fun g => so_7 hb J ad g) rfl hdg kk
theorem fg_X1_18 {b : Nat} (hb : IsB b) (X : Cx p c cc s m RX1 args nL) (h : HG J z ad s G H locs) (hdg : decode cc pc = .ok (.getfield 18, 3)) (kk : W p l e R s m args below meth c H locs cells slots Q (F0 m (pc + 3) ls (.ref (ad (b + 10)) :: rest))) : W p l e R s m args below meth c H locs cells slots Q (F0 m pc ls (.ref (ad (b + 7)) :: rest)) :=
  rg_get X h (ci := 1) in0_X1 rfl 2 (by decide) mw_65 (b + 7) (hb.lt (c := 7) (by decide)) (F := (fun g => fs1 ad b g)) (fun g => so_7 hb J ad g) rfl hdg kk
theorem fg_X2_31 (X : Cx p c cc s m RX2 args nL) (h : HG J z ad s G H locs) (hdg : decode cc pc = .ok (.getfield 31, 3)) (kk : W p l e R s m args below meth c H locs cells slots Q (F0 m (pc + 3) ls (.int (G 203 1) :: rest))) : W p l e R s m args below meth c H locs cells slots Q (F0 m pc ls (.ref (ad 203) :: rest)) :=
  rg_get X h (ci := 2) in0_X2 rfl 1 (by decide) mw_428 203 (by decide) (F := (fun g => fs2 ad g)) (fun g => xo_203 J ad g) rfl hdg kk
theorem fg_X2_9 (X : Cx p c cc s m RX2 args nL) (h : HG J z ad s G H locs) (hdg : decode cc pc = .ok (.getfield 9, 3)) (kk : W p l e R s m args below meth c H locs cells slots Q (F0 m (pc + 3) ls (.ref (ad 204) :: rest))) : W p l e R s m args below meth c H locs cells slots Q (F0 m pc ls (.ref (ad 203) :: rest)) :=
  rg_get X h (ci := 2) in0_X2 rfl 0 (by decide) mw_96 203 (by decide) (F := (fun g => fs2 ad g)) (fun g => xo_203 J ad g) rfl hdg kk
theorem fp_X2_31 (X : Cx p c cc s m RX2 args nL) (h : HG J z ad s G H locs) {v : Int32} (hdg : decode cc pc = .ok (.putfield 31, 3)) (kk : ∀ (H1 : Heap) (locs1 : List Loc), HG J z ad s (u1 G 203 (upd (G 203) 1 v)) H1 locs1 → W p l e R s m args below meth c H1 locs1 cells slots Q (F0 m (pc + 3) ls rest)) : W p l e R s m args below meth c H locs cells slots Q (F0 m pc ls (.int v :: .ref (ad 203) :: rest)) :=
  rg_put X h (ci := 2) in0_X2 tyX2 tyX2_ok nmX2 rfl 1 (by decide) mw_428 rfl 203 (by decide) (F := (fun g => fs2 ad g)) (fun g => xo_203 J ad g) (fun _ => Nat.le_of_ble_eq_true rfl) (fun _ => rfl) rfl rfl hdg kk
theorem fp_X2_35 (X : Cx p c cc s m RX2 args nL) (h : HG J z ad s G H locs) {v : Int32} (hdg : decode cc pc = .ok (.putfield 35, 3)) (kk : ∀ (H1 : Heap) (locs1 : List Loc), HG J z ad s (u1 G 203 (upd (G 203) 2 v)) H1 locs1 → W p l e R s m args below meth c H1 locs1 cells slots Q (F0 m (pc + 3) ls rest)) : W p l e R s m args below meth c H locs cells slots Q (F0 m pc ls (.int v :: .ref (ad 203) :: rest)) :=
  rg_put X h (ci := 2) in0_X2 tyX2 tyX2_ok nmX2 rfl 2 (by decide) mw_457 rfl 203 (by decide) (F := (fun g => fs2 ad g)) (fun g => xo_203 J ad g) (fun _ => Nat.le_of_ble_eq_true rfl) (fun _ => rfl) rfl rfl hdg kk
theorem fp_X2_38 (X : Cx p c cc s m RX2 args nL) (h : HG J z ad s G H locs) {v : Int32} (hdg : decode cc pc = .ok (.putfield 38, 3)) (kk : ∀ (H1 : Heap) (locs1 : List Loc), HG J z ad s (u1 G 203 (upd (G 203) 3 v)) H1 locs1 → W p l e R s m args below meth c H1 locs1 cells slots Q (F0 m (pc + 3) ls rest)) : W p l e R s m args below meth c H locs cells slots Q (F0 m pc ls (.int v :: .ref (ad 203) :: rest)) :=
  rg_put X h (ci := 2) in0_X2 tyX2 tyX2_ok nmX2 rfl 3 (by decide) mw_458 rfl 203 (by decide) (F := (fun g => fs2 ad g)) (fun g => xo_203 J ad g) (fun _ => Nat.le_of_ble_eq_true rfl) (fun _ => rfl) rfl rfl hdg kk
theorem fg_X2_38 (X : Cx p c cc s m RX2 args nL) (h : HG J z ad s G H locs) (hdg : decode cc pc = .ok (.getfield 38, 3)) (kk : W p l e R s m args below meth c H locs cells slots Q (F0 m (pc + 3) ls (.int (G 203 3) :: rest))) : W p l e R s m args below meth c H locs cells slots Q (F0 m pc ls (.ref (ad 203) :: rest)) :=
  rg_get X h (ci := 2) in0_X2 rfl 3 (by decide) mw_458 203 (by decide) (F := (fun g => fs2 ad g)) (fun g => xo_203 J ad g) rfl hdg kk
theorem fg_X2_35 (X : Cx p c cc s m RX2 args nL) (h : HG J z ad s G H locs) (hdg : decode cc pc = .ok (.getfield 35, 3)) (kk : W p l e R s m args below meth c H locs cells slots Q (F0 m (pc + 3) ls (.int (G 203 2) :: rest))) : W p l e R s m args below meth c H locs cells slots Q (F0 m pc ls (.ref (ad 203) :: rest)) :=
  rg_get X h (ci := 2) in0_X2 rfl 2 (by decide) mw_457 203 (by decide) (F := (fun g => fs2 ad g)) (fun g => xo_203 J ad g) rfl hdg kk
theorem fg_X2_15 (X : Cx p c cc s m RX2 args nL) (h : HG J z ad s G H locs) (hdg : decode cc pc = .ok (.getfield 15, 3)) (kk : W p l e R s m args below meth c H locs cells slots Q (F0 m (pc + 3) ls (.ref (ad 205) :: rest))) : W p l e R s m args below meth c H locs cells slots Q (F0 m pc ls (.ref (ad 203) :: rest)) :=
  rg_get X h (ci := 2) in0_X2 rfl 4 (by decide) mw_97 203 (by decide) (F := (fun g => fs2 ad g)) (fun g => xo_203 J ad g) rfl hdg kk
theorem fg_X2_22 (X : Cx p c cc s m RX2 args nL) (h : HG J z ad s G H locs) (hdg : decode cc pc = .ok (.getfield 22, 3)) (kk : W p l e R s m args below meth c H locs cells slots Q (F0 m (pc + 3) ls (.ref (ad 207) :: rest))) : W p l e R s m args below meth c H locs cells slots Q (F0 m pc ls (.ref (ad 203) :: rest)) :=
  rg_get X h (ci := 2) in0_X2 rfl 6 (by decide) mw_99 203 (by decide) (F := (fun g => fs2 ad g)) (fun g => xo_203 J ad g) rfl hdg kk
theorem fg_X2_19 (X : Cx p c cc s m RX2 args nL) (h : HG J z ad s G H locs) (hdg : decode cc pc = .ok (.getfield 19, 3)) (kk : W p l e R s m args below meth c H locs cells slots Q (F0 m (pc + 3) ls (.ref (ad 206) :: rest))) : W p l e R s m args below meth c H locs cells slots Q (F0 m pc ls (.ref (ad 203) :: rest)) :=
  rg_get X h (ci := 2) in0_X2 rfl 5 (by decide) mw_98 203 (by decide) (F := (fun g => fs2 ad g)) (fun g => xo_203 J ad g) rfl hdg kk
theorem fg_X2_25 (X : Cx p c cc s m RX2 args nL) (h : HG J z ad s G H locs) (hdg : decode cc pc = .ok (.getfield 25, 3)) (kk : W p l e R s m args below meth c H locs cells slots Q (F0 m (pc + 3) ls (.ref (ad 208) :: rest))) : W p l e R s m args below meth c H locs cells slots Q (F0 m pc ls (.ref (ad 203) :: rest)) :=
  rg_get X h (ci := 2) in0_X2 rfl 7 (by decide) mw_100 203 (by decide) (F := (fun g => fs2 ad g)) (fun g => xo_203 J ad g) rfl hdg kk
theorem fg_X2_28 (X : Cx p c cc s m RX2 args nL) (h : HG J z ad s G H locs) (hdg : decode cc pc = .ok (.getfield 28, 3)) (kk : W p l e R s m args below meth c H locs cells slots Q (F0 m (pc + 3) ls (.ref (ad 209) :: rest))) : W p l e R s m args below meth c H locs cells slots Q (F0 m pc ls (.ref (ad 203) :: rest)) :=
  rg_get X h (ci := 2) in0_X2 rfl 8 (by decide) mw_101 203 (by decide) (F := (fun g => fs2 ad g)) (fun g => xo_203 J ad g) rfl hdg kk
theorem fg_X3_30 {b : Nat} (hb : IsB b) (X : Cx p c cc s m RX3 args nL) (h : HG J z ad s G H locs) (hdg : decode cc pc = .ok (.getfield 30, 3)) (kk : W p l e R s m args below meth c H locs cells slots Q (F0 m (pc + 3) ls (.int (G (b + 11) 0) :: rest))) : W p l e R s m args below meth c H locs cells slots Q (F0 m pc ls (.ref (ad (b + 11)) :: rest)) :=
  rg_get X h (ci := 3) in0_X3 rfl 0 (by decide) mw_142 (b + 11) (hb.lt (c := 11) (by decide)) (F := (fun g => fs3 ad b g)) (fun g => so_11 hb J ad g) rfl hdg kk
theorem fp_X3_30 {b : Nat} (hb : IsB b) (X : Cx p c cc s m RX3 args nL) (h : HG J z ad s G H locs) {v : Int32} (hdg : decode cc pc = .ok (.putfield 30, 3)) (kk : ∀ (H1 : Heap) (locs1 : List Loc), HG J z ad s (u1 G (b + 11) (upd (G (b + 11)) 0 v)) H1 locs1 → W p l e R s m args below meth c H1 locs1 cells slots Q (F0 m (pc + 3) ls rest)) : W p l e R s m args below meth c H locs cells slots Q (F0 m pc ls (.int v :: .ref (ad (b + 11)) :: rest)) :=
  rg_put X h (ci := 3) in0_X3 tyX3 tyX3_ok nmX3 rfl 0 (by decide) mw_142 rfl (b + 11) (hb.lt (c := 11) (by decide)) (F := (fun g => fs3 ad b g)) (fun g => so_11 hb J ad g) (fun _ => Nat.le_of_ble_eq_true rfl) (fun _ => rfl) rfl rfl hdg kk
theorem fg_X3_9 {b : Nat} (hb : IsB b) (X : Cx p c cc s m RX3 args nL) (h : HG J z ad s G H locs) (hdg : decode cc pc = .ok (.getfield 9, 3)) (kk : W p l e R s m args below meth c H locs cells slots Q (F0 m (pc + 3) ls (.ref (ad (b + 12)) :: rest))) : W p l e R s m args below meth c H locs cells slots Q (F0 m pc ls (.ref (ad (b + 11)) :: rest)) :=
  rg_get X h (ci := 3) in0_X3 rfl 1 (by decide) mw_70 (b + 11) (hb.lt (c := 11) (by decide)) (F := (fun g => fs3 ad b g)) (fun g => so_11 hb J ad g) rfl hdg kk
theorem fg_X3_15 {b : Nat} (hb : IsB b) (X : Cx p c cc s m RX3 args nL) (h : HG J z ad s G H locs) (hdg : decode cc pc = .ok (.getfield 15, 3)) (kk : W p l e R s m args below meth c H locs cells slots Q (F0 m (pc + 3) ls (.ref (ad (b + 13)) :: rest))) : W p l e R s m args below meth c H locs cells slots Q (F0 m pc ls (.ref (ad (b + 11)) :: rest)) :=
  rg_get X h (ci := 3) in0_X3 rfl 2 (by decide) mw_71 (b + 11) (hb.lt (c := 11) (by decide)) (F := (fun g => fs3 ad b g)) (fun g => so_11 hb J ad g) rfl hdg kk
theorem fg_X3_18 {b : Nat} (hb : IsB b) (X : Cx p c cc s m RX3 args nL) (h : HG J z ad s G H locs) (hdg : decode cc pc = .ok (.getfield 18, 3)) (kk : W p l e R s m args below meth c H locs cells slots Q (F0 m (pc + 3) ls (.ref (ad (b + 14)) :: rest))) : W p l e R s m args below meth c H locs cells slots Q (F0 m pc ls (.ref (ad (b + 11)) :: rest)) :=
  rg_get X h (ci := 3) in0_X3 rfl 3 (by decide) mw_72 (b + 11) (hb.lt (c := 11) (by decide)) (F := (fun g => fs3 ad b g)) (fun g => so_11 hb J ad g) rfl hdg kk
theorem fg_X3_21 {b : Nat} (hb : IsB b) (X : Cx p c cc s m RX3 args nL) (h : HG J z ad s G H locs) (hdg : decode cc pc = .ok (.getfield 21, 3)) (kk : W p l e R s m args below meth c H locs cells slots Q (F0 m (pc + 3) ls (.ref (ad (b + 15)) :: rest))) : W p l e R s m args below meth c H locs cells slots Q (F0 m pc ls (.ref (ad (b + 11)) :: rest)) :=
  rg_get X h (ci := 3) in0_X3 rfl 4 (by decide) mw_73 (b + 11) (hb.lt (c := 11) (by decide)) (F := (fun g => fs3 ad b g)) (fun g => so_11 hb J ad g) rfl hdg kk
theorem fg_X3_24 {b : Nat} (hb : IsB b) (X : Cx p c cc s m RX3 args nL) (h : HG J z ad s G H locs) (hdg : decode cc pc = .ok (.getfield 24, 3)) (kk : W p l e R s m args below meth c H locs cells slots Q (F0 m (pc + 3) ls (.ref (ad (b + 16)) :: rest))) : W p l e R s m args below meth c H locs cells slots Q (F0 m pc ls (.ref (ad (b + 11)) :: rest)) :=
  rg_get X h (ci := 3) in0_X3 rfl 5 (by decide) mw_74 (b + 11) (hb.lt (c := 11) (by decide)) (F := (fun g => fs3 ad b g)) (fun g => so_11 hb J ad g) rfl hdg kk
theorem fg_X3_27 {b : Nat} (hb : IsB b) (X : Cx p c cc s m RX3 args nL) (h : HG J z ad s G H locs) (hdg : decode cc pc = .ok (.getfield 27, 3)) (kk : W p l e R s m args below meth c H locs cells slots Q (F0 m (pc + 3) ls (.ref (ad (b + 17)) :: rest))) : W p l e R s m args below meth c H locs cells slots Q (F0 m pc ls (.ref (ad (b + 11)) :: rest)) :=
  rg_get X h (ci := 3) in0_X3 rfl 6 (by decide) mw_75 (b + 11) (hb.lt (c := 11) (by decide)) (F := (fun g => fs3 ad b g)) (fun g => so_11 hb J ad g) rfl hdg kk
theorem fg_X4_24 {b : Nat} (hb : IsB b) (X : Cx p c cc s m RX4 args nL) (h : HG J z ad s G H locs) (hdg : decode cc pc = .ok (.getfield 24, 3)) (kk : W p l e R s m args below meth c H locs cells slots Q (F0 m (pc + 3) ls (.int (G (b + 18) 0) :: rest))) : W p l e R s m args below meth c H locs cells slots Q (F0 m pc ls (.ref (ad (b + 18)) :: rest)) :=
  rg_get X h (ci := 4) in0_X4 rfl 0 (by decide) mw_148 (b + 18) (hb.lt (c := 18) (by decide)) (F := (fun g => fs4 ad b g)) (fun g => so_18 hb J ad g) rfl hdg kk
theorem fp_X4_24 {b : Nat} (hb : IsB b) (X : Cx p c cc s m RX4 args nL) (h : HG J z ad s G H locs) {v : Int32} (hdg : decode cc pc = .ok (.putfield 24, 3)) (kk : ∀ (H1 : Heap) (locs1 : List Loc), HG J z ad s (u1 G (b + 18) (upd (G (b + 18)) 0 v)) H1 locs1 → W p l e R s m args below meth c H1 locs1 cells slots Q (F0 m (pc + 3) ls rest)) : W p l e R s m args below meth c H locs cells slots Q (F0 m pc ls (.int v :: .ref (ad (b + 18)) :: rest)) :=
  rg_put X h (ci := 4) in0_X4 tyX4 tyX4_ok nmX4 rfl 0 (by decide) mw_148 rfl (b + 18) (hb.lt (c := 18) (by decide)) (F := (fun g => fs4 ad b g)) (fun g => so_18 hb J ad g) (fun _ => Nat.le_of_ble_eq_true rfl) (fun _ => rfl) rfl rfl hdg kk
theorem fg_X4_9 {b : Nat} (hb : IsB b) (X : Cx p c cc s m RX4 args nL) (h : HG J z ad s G H locs) (hdg : decode cc pc = .ok (.getfield 9, 3)) (kk : W p l e R s m args below meth c H locs cells slots Q (F0 m (pc + 3) ls (.ref (ad (b + 19)) :: rest))) : W p l e R s m args below meth c H locs cells slots Q (F0 m pc ls (.ref (ad (b + 18)) :: rest)) :=
  rg_get X h (ci := 4) in0_X4 rfl 1 (by decide) mw_80 (b + 18) (hb.lt (c := 18) (by decide)) (F := (fun g => fs4 ad b g)) (fun g => so_18 hb J ad g) rfl hdg kk
theorem fg_X4_15 {b : Nat} (hb : IsB b) (X : Cx p c cc s m RX4 args nL) (h : HG J z ad s G H locs) (hdg : decode cc pc = .ok (.getfield 15, 3)) (kk : W p l e R s m args below meth c H locs cells slots Q (F0 m (pc + 3) ls (.ref (ad (b + 20)) :: rest))) : W p l e R s m args below meth c H locs cells slots Q (F0 m pc ls (.ref (ad (b + 18)) :: rest)) :=
  rg_get X h (ci := 4) in0_X4 rfl 2 (by decide) mw_81 (b + 18) (hb.lt (c := 18) (by decide)) (F := (fun g => fs4 ad b g)) (fun g => so_18 hb J ad g) rfl hdg kk
theorem fg_X4_18 {b : Nat} (hb : IsB b) (X : Cx p c cc s m RX4 args nL) (h : HG J z ad s G H locs) (hdg : decode cc pc = .ok (.getfield 18, 3)) (kk : W p l e R s m args below meth c H locs cells slots Q (F0 m (pc + 3) ls (.ref (ad (b + 21)) :: rest))) : W p l e R s m args below meth c H locs cells slots Q (F0 m pc ls (.ref (ad (b + 18)) :: rest)) :=
  rg_get X h (ci := 4) in0_X4 rfl 3 (by decide) mw_82 (b + 18) (hb.lt (c := 18) (by decide)) (F := (fun g => fs4 ad b g)) (fun g => so_18 hb J ad g) rfl hdg kk
theorem fg_X4_21 {b : Nat} (hb : IsB b) (X : Cx p c cc s m RX4 args nL) (h : HG J z ad s G H locs) (hdg : decode cc pc = .ok (.getfield 21, 3)) (kk : W p l e R s m args below meth c H locs cells slots Q (F0 m (pc + 3) ls (.ref (ad (b + 22)) :: rest))) : W p l e R s m args below meth c H locs cells slots Q (F0 m pc ls (.ref (ad (b + 18)) :: rest)) :=
  rg_get X h (ci := 4) in0_X4 rfl 4 (by decide) mw_83 (b + 18) (hb.lt (c := 18) (by decide)) (F := (fun g => fs4 ad b g)) (fun g => so_18 hb J ad g) rfl hdg kk
theorem fg_X4_34 {b : Nat} (hb : IsB b) (X : Cx p c cc s m RX4 args nL) (h : HG J z ad s G H locs) (hdg : decode cc pc = .ok (.getfield 34, 3)) (kk : W p l e R s m args below meth c H locs cells slots Q (F0 m (pc + 3) ls (.ref (ad (b + 13)) :: rest))) : W p l e R s m args below meth c H locs cells slots Q (F0 m pc ls (.ref (ad (b + 11)) :: rest)) :=
  rg_get X h (ci := 3) in0_X3 rfl 2 (by decide) mw_357 (b + 11) (hb.lt (c := 11) (by decide)) (F := (fun g => fs3 ad b g)) (fun g => so_11 hb J ad g) rfl hdg kk
theorem fg_X4_37 {b : Nat} (hb : IsB b) (X : Cx p c cc s m RX4 args nL) (h : HG J z ad s G H locs) (hdg : decode cc pc = .ok (.getfield 37, 3)) (kk : W p l e R s m args below meth c H locs cells slots Q (F0 m (pc + 3) ls (.ref (ad (b + 14)) :: rest))) : W p l e R s m args below meth c H locs cells slots Q (F0 m pc ls (.ref (ad (b + 11)) :: rest)) :=
  rg_get X h (ci := 3) in0_X3 rfl 3 (by decide) mw_358 (b + 11) (hb.lt (c := 11) (by decide)) (F := (fun g => fs3 ad b g)) (fun g => so_11 hb J ad g) rfl hdg kk
theorem fg_X4_38 {b : Nat} (hb : IsB b) (X : Cx p c cc s m RX4 args nL) (h : HG J z ad s G H locs) (hdg : decode cc pc = .ok (.getfield 38, 3)) (kk : W p l e R s m args below meth c H locs cells slots Q (F0 m (pc + 3) ls (.ref (ad (b + 15)) :: rest))) : W p l e R s m args below meth c H locs cells slots Q (F0 m pc ls (.ref (ad (b + 11)) :: rest)) :=
  rg_get X h (ci := 3) in0_X3 rfl 4 (by decide) mw_359 (b + 11) (hb.lt (c := 11) (by decide)) (F := (fun g => fs3 ad b g)) (fun g => so_11 hb J ad g) rfl hdg kk
theorem fg_X4_39 {b : Nat} (hb : IsB b) (X : Cx p c cc s m RX4 args nL) (h : HG J z ad s G H locs) (hdg : decode cc pc = .ok (.getfield 39, 3)) (kk : W p l e R s m args below meth c H locs cells slots Q (F0 m (pc + 3) ls (.ref (ad (b + 16)) :: rest))) : W p l e R s m args below meth c H locs cells slots Q (F0 m pc ls (.ref (ad (b + 11)) :: rest)) :=
  rg_get X h (ci := 3) in0_X3 rfl 5 (by decide) mw_360 (b + 11) (hb.lt (c := 11) (by decide)) (F := (fun g => fs3 ad b g)) (fun g => so_11 hb J ad g) rfl hdg kk
theorem fg_X5_12 {b : Nat} (hb : IsB b) (X : Cx p c cc s m RX5 args nL) (h : HG J z ad s G H locs) (hdg : decode cc pc = .ok (.getfield 12, 3)) (kk : W p l e R s m args below meth c H locs cells slots Q (F0 m (pc + 3) ls (.ref (ad (b + 1)) :: rest))) : W p l e R s m args below meth c H locs cells slots Q (F0 m pc ls (.ref (ad b) :: rest)) :=
  rg_get X h (ci := 5) in0_X5 rfl 0 (by decide) mw_34 b (hb.lt (c := 0) (by decide)) (F := (fun g => fs5 ad b g)) (fun g => so_0 hb J ad g) rfl hdg kk
theorem fg_X5_21 {b : Nat} (hb : IsB b) (X : Cx p c cc s m RX5 args nL) (h : HG J z ad s G H locs) (hdg : decode cc pc = .ok (.getfield 21, 3)) (kk : W p l e R s m args below meth c H locs cells slots Q (F0 m (pc + 3) ls (.ref (ad (b + 7)) :: rest))) : W p l e R s m args below meth c H locs cells slots Q (F0 m pc ls (.ref (ad b) :: rest)) :=
  rg_get X h (ci := 5) in0_X5 rfl 1 (by decide) mw_38 b (hb.lt (c := 0) (by decide)) (F := (fun g => fs5 ad b g)) (fun g => so_0 hb J ad g) rfl hdg kk
theorem fg_X5_28 {b : Nat} (hb : IsB b) (X : Cx p c cc s m RX5 args nL) (h : HG J z ad s G H locs) (hdg : decode cc pc = .ok (.getfield 28, 3)) (kk : W p l e R s m args below meth c H locs cells slots Q (F0 m (pc + 3) ls (.ref (ad (b + 11)) :: rest))) : W p l e R s m args below meth c H locs cells slots Q (F0 m pc ls (.ref (ad b) :: rest)) :=
  rg_get X h (ci := 5) in0_X5 rfl 2 (by decide) mw_42 b (hb.lt (c := 0) (by decide)) (F := (fun g => fs5 ad b g)) (fun g => so_0 hb J ad g) rfl hdg kk
theorem fg_X5_35 {b : Nat} (hb : IsB b) (X : Cx p c cc s m RX5 args nL) (h : HG J z ad s G H locs) (hdg : decode cc pc = .ok (.getfield 35, 3)) (kk : W p l e R s m args below meth c H locs cells slots Q (F0 m (pc + 3) ls (.ref (ad (b + 18)) :: rest))) : W p l e R s m args below meth c H locs cells slots Q (F0 m pc ls (.ref (ad b) :: rest)) :=
  rg_get X h (ci := 5) in0_X5 rfl 3 (by decide) mw_46 b (hb.lt (c := 0) (by decide)) (F := (fun g => fs5 ad b g)) (fun g => so_0 hb J ad g) rfl hdg kk
theorem fg_X5_39 {b : Nat} (hb : IsB b) (X : Cx p c cc s m RX5 args nL) (h : HG J z ad s G H locs) (hdg : decode cc pc = .ok (.getfield 39, 3)) (kk : W p l e R s m args below meth c H locs cells slots Q (F0 m (pc + 3) ls (.ref (ad (b + 23)) :: rest))) : W p l e R s m args below meth c H locs cells slots Q (F0 m pc ls (.ref (ad b) :: rest)) :=
  rg_get X h (ci := 5) in0_X5 rfl 4 (by decide) mw_48 b (hb.lt (c := 0) (by decide)) (F := (fun g => fs5 ad b g)) (fun g => so_0 hb J ad g) rfl hdg kk
theorem fg_X5_59 {b : Nat} (hb : IsB b) (X : Cx p c cc s m RX5 args nL) (h : HG J z ad s G H locs) (hdg : decode cc pc = .ok (.getfield 59, 3)) (kk : W p l e R s m args below meth c H locs cells slots Q (F0 m (pc + 3) ls (.int (G b 5) :: rest))) : W p l e R s m args below meth c H locs cells slots Q (F0 m pc ls (.ref (ad b) :: rest)) :=
  rg_get X h (ci := 5) in0_X5 rfl 5 (by decide) mw_120 b (hb.lt (c := 0) (by decide)) (F := (fun g => fs5 ad b g)) (fun g => so_0 hb J ad g) rfl hdg kk
theorem fp_X5_59 {b : Nat} (hb : IsB b) (X : Cx p c cc s m RX5 args nL) (h : HG J z ad s G H locs) {v : Int32} (hdg : decode cc pc = .ok (.putfield 59, 3)) (kk : ∀ (H1 : Heap) (locs1 : List Loc), HG J z ad s (u1 G b (upd (G b) 5 v)) H1 locs1 → W p l e R s m args below meth c H1 locs1 cells slots Q (F0 m (pc + 3) ls rest)) : W p l e R s m args below meth c H locs cells slots Q (F0 m pc ls (.int v :: .ref (ad b) :: rest)) :=
  rg_put X h (ci := 5) in0_X5 tyX5 tyX5_ok nmX5 rfl 5 (by decide) mw_120 rfl b (hb.lt (c := 0) (by decide)) (F := (fun g => fs5 ad b g)) (fun g => so_0 hb J ad g) (fun _ => Nat.le_of_ble_eq_true rfl) (fun _ => rfl) rfl rfl hdg kk
theorem fg_X5_63 {b : Nat} (hb : IsB b) (X : Cx p c cc s m RX5 args nL) (h : HG J z ad s G H locs) (hdg : decode cc pc = .ok (.getfield 63, 3)) (kk : W p l e R s m args below meth c H locs cells slots Q (F0 m (pc + 3) ls (.int (G b 6) :: rest))) : W p l e R s m args below meth c H locs cells slots Q (F0 m pc ls (.ref (ad b) :: rest)) :=
  rg_get X h (ci := 5) in0_X5 rfl 6 (by decide) mw_121 b (hb.lt (c := 0) (by decide)) (F := (fun g => fs5 ad b g)) (fun g => so_0 hb J ad g) rfl hdg kk
theorem fp_X5_63 {b : Nat} (hb : IsB b) (X : Cx p c cc s m RX5 args nL) (h : HG J z ad s G H locs) {v : Int32} (hdg : decode cc pc = .ok (.putfield 63, 3)) (kk : ∀ (H1 : Heap) (locs1 : List Loc), HG J z ad s (u1 G b (upd (G b) 6 v)) H1 locs1 → W p l e R s m args below meth c H1 locs1 cells slots Q (F0 m (pc + 3) ls rest)) : W p l e R s m args below meth c H locs cells slots Q (F0 m pc ls (.int v :: .ref (ad b) :: rest)) :=
  rg_put X h (ci := 5) in0_X5 tyX5 tyX5_ok nmX5 rfl 6 (by decide) mw_121 rfl b (hb.lt (c := 0) (by decide)) (F := (fun g => fs5 ad b g)) (fun g => so_0 hb J ad g) (fun _ => Nat.le_of_ble_eq_true rfl) (fun _ => rfl) rfl rfl hdg kk
theorem fg_X5_66 {b : Nat} (hb : IsB b) (X : Cx p c cc s m RX5 args nL) (h : HG J z ad s G H locs) (hdg : decode cc pc = .ok (.getfield 66, 3)) (kk : W p l e R s m args below meth c H locs cells slots Q (F0 m (pc + 3) ls (.int (G b 7) :: rest))) : W p l e R s m args below meth c H locs cells slots Q (F0 m pc ls (.ref (ad b) :: rest)) :=
  rg_get X h (ci := 5) in0_X5 rfl 7 (by decide) mw_122 b (hb.lt (c := 0) (by decide)) (F := (fun g => fs5 ad b g)) (fun g => so_0 hb J ad g) rfl hdg kk
theorem fp_X5_66 {b : Nat} (hb : IsB b) (X : Cx p c cc s m RX5 args nL) (h : HG J z ad s G H locs) {v : Int32} (hdg : decode cc pc = .ok (.putfield 66, 3)) (kk : ∀ (H1 : Heap) (locs1 : List Loc), HG J z ad s (u1 G b (upd (G b) 7 v)) H1 locs1 → W p l e R s m args below meth c H1 locs1 cells slots Q (F0 m (pc + 3) ls rest)) : W p l e R s m args below meth c H locs cells slots Q (F0 m pc ls (.int v :: .ref (ad b) :: rest)) :=
  rg_put X h (ci := 5) in0_X5 tyX5 tyX5_ok nmX5 rfl 7 (by decide) mw_122 rfl b (hb.lt (c := 0) (by decide)) (F := (fun g => fs5 ad b g)) (fun g => so_0 hb J ad g) (fun _ => Nat.le_of_ble_eq_true rfl) (fun _ => rfl) rfl rfl hdg kk
theorem fg_X5_69 {b : Nat} (hb : IsB b) (X : Cx p c cc s m RX5 args nL) (h : HG J z ad s G H locs) (hdg : decode cc pc = .ok (.getfield 69, 3)) (kk : W p l e R s m args below meth c H locs cells slots Q (F0 m (pc + 3) ls (.int (G b 8) :: rest))) : W p l e R s m args below meth c H locs cells slots Q (F0 m pc ls (.ref (ad b) :: rest)) :=
  rg_get X h (ci := 5) in0_X5 rfl 8 (by decide) mw_123 b (hb.lt (c := 0) (by decide)) (F := (fun g => fs5 ad b g)) (fun g => so_0 hb J ad g) rfl hdg kk
theorem fp_X5_69 {b : Nat} (hb : IsB b) (X : Cx p c cc s m RX5 args nL) (h : HG J z ad s G H locs) {v : Int32} (hdg : decode cc pc = .ok (.putfield 69, 3)) (kk : ∀ (H1 : Heap) (locs1 : List Loc), HG J z ad s (u1 G b (upd (G b) 8 v)) H1 locs1 → W p l e R s m args below meth c H1 locs1 cells slots Q (F0 m (pc + 3) ls rest)) : W p l e R s m args below meth c H locs cells slots Q (F0 m pc ls (.int v :: .ref (ad b) :: rest)) :=
  rg_put X h (ci := 5) in0_X5 tyX5 tyX5_ok nmX5 rfl 8 (by decide) mw_123 rfl b (hb.lt (c := 0) (by decide)) (F := (fun g => fs5 ad b g)) (fun g => so_0 hb J ad g) (fun _ => Nat.le_of_ble_eq_true rfl) (fun _ => rfl) rfl rfl hdg kk
theorem fg_X5_76 {b : Nat} (hb : IsB b) (X : Cx p c cc s m RX5 args nL) (h : HG J z ad s G H locs) (hdg : decode cc pc = .ok (.getfield 76, 3)) (kk : W p l e R s m args below meth c H locs cells slots Q (F0 m (pc + 3) ls (.int (G (b + 1) 0) :: rest))) : W p l e R s m args below meth c H locs cells slots Q (F0 m pc ls (.ref (ad (b + 1)) :: rest)) :=
  rg_get X h (ci := 6) in0_X6 rfl 0 (by decide) mw_154 (b + 1) (hb.lt (c := 1) (by decide)) (F := (fun g => fs6 ad b g)) (fun g => so_1 hb J ad g) rfl hdg kk
theorem fg_X5_86 {b : Nat} (hb : IsB b) (X : Cx p c cc s m RX5 args nL) (h : HG J z ad s G H locs) (hdg : decode cc pc = .ok (.getfield 86, 3)) (kk : W p l e R s m args below meth c H locs cells slots Q (F0 m (pc + 3) ls (.ref (ad (b + 2)) :: rest))) : W p l e R s m args below meth c H locs cells slots Q (F0 m pc ls (.ref (ad (b + 1)) :: rest)) :=
  rg_get X h (ci := 6) in0_X6 rfl 1 (by decide) mw_210 (b + 1) (hb.lt (c := 1) (by decide)) (F := (fun g => fs6 ad b g)) (fun g => so_1 hb J ad g) rfl hdg kk
theorem fg_X5_99 {b : Nat} (hb : IsB b) (X : Cx p c cc s m RX5 args nL) (h : HG J z ad s G H locs) (hdg : decode cc pc = .ok (.getfield 99, 3)) (kk : W p l e R s m args below meth c H locs cells slots Q (F0 m (pc + 3) ls (.int (G (b + 11) 0) :: rest))) : W p l e R s m args below meth c H locs cells slots Q (F0 m pc ls (.ref (ad (b + 11)) :: rest)) :=
  rg_get X h (ci := 3) in0_X3 rfl 0 (by decide) mw_235 (b + 11) (hb.lt (c := 11) (by decide)) (F := (fun g => fs3 ad b g)) (fun g => so_11 hb J ad g) rfl hdg kk
theorem fg_X5_100 {b : Nat} (hb : IsB b) (X : Cx p c cc s m RX5 args nL) (h : HG J z ad s G H locs) (hdg : decode cc pc = .ok (.getfield 100, 3)) (kk : W p l e R s m args below meth c H locs cells slots Q (F0 m (pc + 3) ls (.ref (ad (b + 4)) :: rest))) : W p l e R s m args below meth c H locs cells slots Q (F0 m pc ls (.ref (ad (b + 1)) :: rest)) :=
  rg_get X h (ci := 6) in0_X6 rfl 3 (by decide) mw_236 (b + 1) (hb.lt (c := 1) (by decide)) (F := (fun g => fs6 ad b g)) (fun g => so_1 hb J ad g) rfl hdg kk
theorem fg_X5_103 {b : Nat} (hb : IsB b) (X : Cx p c cc s m RX5 args nL) (h : HG J z ad s G H locs) (hdg : decode cc pc = .ok (.getfield 103, 3)) (kk : W p l e R s m args below meth c H locs cells slots Q (F0 m (pc + 3) ls (.ref (ad (b + 3)) :: rest))) : W p l e R s m args below meth c H locs cells slots Q (F0 m pc ls (.ref (ad (b + 1)) :: rest)) :=
  rg_get X h (ci := 6) in0_X6 rfl 2 (by decide) mw_237 (b + 1) (hb.lt (c := 1) (by decide)) (F := (fun g => fs6 ad b g)) (fun g => so_1 hb J ad g) rfl hdg kk
theorem fg_X5_112 {b : Nat} (hb : IsB b) (X : Cx p c cc s m RX5 args nL) (h : HG J z ad s G H locs) (hdg : decode cc pc = .ok (.getfield 112, 3)) (kk : W p l e R s m args below meth c H locs cells slots Q (F0 m (pc + 3) ls (.ref (ad (b + 12)) :: rest))) : W p l e R s m args below meth c H locs cells slots Q (F0 m pc ls (.ref (ad (b + 11)) :: rest)) :=
  rg_get X h (ci := 3) in0_X3 rfl 1 (by decide) mw_272 (b + 11) (hb.lt (c := 11) (by decide)) (F := (fun g => fs3 ad b g)) (fun g => so_11 hb J ad g) rfl hdg kk
theorem fg_X5_115 {b : Nat} (hb : IsB b) (X : Cx p c cc s m RX5 args nL) (h : HG J z ad s G H locs) (hdg : decode cc pc = .ok (.getfield 115, 3)) (kk : W p l e R s m args below meth c H locs cells slots Q (F0 m (pc + 3) ls (.ref (ad (b + 17)) :: rest))) : W p l e R s m args below meth c H locs cells slots Q (F0 m pc ls (.ref (ad (b + 11)) :: rest)) :=
  rg_get X h (ci := 3) in0_X3 rfl 6 (by decide) mw_273 (b + 11) (hb.lt (c := 11) (by decide)) (F := (fun g => fs3 ad b g)) (fun g => so_11 hb J ad g) rfl hdg kk
theorem fg_X5_118 {b : Nat} (hb : IsB b) (X : Cx p c cc s m RX5 args nL) (h : HG J z ad s G H locs) (hdg : decode cc pc = .ok (.getfield 118, 3)) (kk : W p l e R s m args below meth c H locs cells slots Q (F0 m (pc + 3) ls (.ref (ad (b + 16)) :: rest))) : W p l e R s m args below meth c H locs cells slots Q (F0 m pc ls (.ref (ad (b + 11)) :: rest)) :=
  rg_get X h (ci := 3) in0_X3 rfl 5 (by decide) mw_274 (b + 11) (hb.lt (c := 11) (by decide)) (F := (fun g => fs3 ad b g)) (fun g => so_11 hb J ad g) rfl hdg kk
theorem fp_X5_129 {b : Nat} (hb : IsB b) (X : Cx p c cc s m RX5 args nL) (h : HG J z ad s G H locs) {v : Int32} (hdg : decode cc pc = .ok (.putfield 129, 3)) (kk : ∀ (H1 : Heap) (locs1 : List Loc), HG J z ad s (u1 G (b + 18) (upd (G (b + 18)) 0 v)) H1 locs1 → W p l e R s m args below meth c H1 locs1 cells slots Q (F0 m (pc + 3) ls rest)) : W p l e R s m args below meth c H locs cells slots Q (F0 m pc ls (.int v :: .ref (ad (b + 18)) :: rest)) :=
  rg_put X h (ci := 4) in0_X4 tyX4 tyX4_ok nmX4 rfl 0 (by decide) mw_308 rfl (b + 18) (hb.lt (c := 18) (by decide)) (F := (fun g => fs4 ad b g)) (fun g => so_18 hb J ad g) (fun _ => Nat.le_of_ble_eq_true rfl) (fun _ => rfl) rfl rfl hdg kk
theorem fg_X5_43 {b : Nat} (hb : IsB b) (X : Cx p c cc s m RX5 args nL) (h : HG J z ad s G H locs) (hdg : decode cc pc = .ok (.getfield 43, 3)) (kk : W p l e R s m args below meth c H locs cells slots Q (F0 m (pc + 3) ls (.ref (ad (b + 24)) :: rest))) : W p l e R s m args below meth c H locs cells slots Q (F0 m pc ls (.ref (ad b) :: rest)) :=
  rg_get X h (ci := 5) in0_X5 rfl 9 (by decide) mw_49 b (hb.lt (c := 0) (by decide)) (F := (fun g => fs5 ad b g)) (fun g => so_0 hb J ad g) rfl hdg kk
theorem fg_X5_130 {b : Nat} (hb : IsB b) (X : Cx p c cc s m RX5 args nL) (h : HG J z ad s G H locs) (hdg : decode cc pc = .ok (.getfield 130, 3)) (kk : W p l e R s m args below meth c H locs cells slots Q (F0 m (pc + 3) ls (.ref (ad (b + 5)) :: rest))) : W p l e R s m args below meth c H locs cells slots Q (F0 m pc ls (.ref (ad (b + 1)) :: rest)) :=
  rg_get X h (ci := 6) in0_X6 rfl 4 (by decide) mw_309 (b + 1) (hb.lt (c := 1) (by decide)) (F := (fun g => fs6 ad b g)) (fun g => so_1 hb J ad g) rfl hdg kk
theorem fg_X5_133 {b : Nat} (hb : IsB b) (X : Cx p c cc s m RX5 args nL) (h : HG J z ad s G H locs) (hdg : decode cc pc = .ok (.getfield 133, 3)) (kk : W p l e R s m args below meth c H locs cells slots Q (F0 m (pc + 3) ls (.ref (ad (b + 6)) :: rest))) : W p l e R s m args below meth c H locs cells slots Q (F0 m pc ls (.ref (ad (b + 1)) :: rest)) :=
  rg_get X h (ci := 6) in0_X6 rfl 5 (by decide) mw_310 (b + 1) (hb.lt (c := 1) (by decide)) (F := (fun g => fs6 ad b g)) (fun g => so_1 hb J ad g) rfl hdg kk
theorem fp_X5_99 {b : Nat} (hb : IsB b) (X : Cx p c cc s m RX5 args nL) (h : HG J z ad s G H locs) {v : Int32} (hdg : decode cc pc = .ok (.putfield 99, 3)) (kk : ∀ (H1 : Heap) (locs1 : List Loc), HG J z ad s (u1 G (b + 11) (upd (G (b + 11)) 0 v)) H1 locs1 → W p l e R s m args below meth c H1 locs1 cells slots Q (F0 m (pc + 3) ls rest)) : W p l e R s m args below meth c H locs cells slots Q (F0 m pc ls (.int v :: .ref (ad (b + 11)) :: rest)) :=
  rg_put X h (ci := 3) in0_X3 tyX3 tyX3_ok nmX3 rfl 0 (by decide) mw_235 rfl (b + 11) (hb.lt (c := 11) (by decide)) (F := (fun g => fs3 ad b g)) (fun g => so_11 hb J ad g) (fun _ => Nat.le_of_ble_eq_true rfl) (fun _ => rfl) rfl rfl hdg kk
theorem fg_X5_149 {b : Nat} (hb : IsB b) (X : Cx p c cc s m RX5 args nL) (h : HG J z ad s G H locs) (hdg : decode cc pc = .ok (.getfield 149, 3)) (kk : W p l e R s m args below meth c H locs cells slots Q (F0 m (pc + 3) ls (.ref (ad (b + 13)) :: rest))) : W p l e R s m args below meth c H locs cells slots Q (F0 m pc ls (.ref (ad (b + 11)) :: rest)) :=
  rg_get X h (ci := 3) in0_X3 rfl 2 (by decide) mw_327 (b + 11) (hb.lt (c := 11) (by decide)) (F := (fun g => fs3 ad b g)) (fun g => so_11 hb J ad g) rfl hdg kk
theorem fg_X5_152 {b : Nat} (hb : IsB b) (X : Cx p c cc s m RX5 args nL) (h : HG J z ad s G H locs) (hdg : decode cc pc = .ok (.getfield 152, 3)) (kk : W p l e R s m args below meth c H locs cells slots Q (F0 m (pc + 3) ls (.ref (ad (b + 14)) :: rest))) : W p l e R s m args below meth c H locs cells slots Q (F0 m pc ls (.ref (ad (b + 11)) :: rest)) :=
  rg_get X h (ci := 3) in0_X3 rfl 3 (by decide) mw_328 (b + 11) (hb.lt (c := 11) (by decide)) (F := (fun g => fs3 ad b g)) (fun g => so_11 hb J ad g) rfl hdg kk
theorem fg_X5_155 {b : Nat} (hb : IsB b) (X : Cx p c cc s m RX5 args nL) (h : HG J z ad s G H locs) (hdg : decode cc pc = .ok (.getfield 155, 3)) (kk : W p l e R s m args below meth c H locs cells slots Q (F0 m (pc + 3) ls (.ref (ad (b + 15)) :: rest))) : W p l e R s m args below meth c H locs cells slots Q (F0 m pc ls (.ref (ad (b + 11)) :: rest)) :=
  rg_get X h (ci := 3) in0_X3 rfl 4 (by decide) mw_329 (b + 11) (hb.lt (c := 11) (by decide)) (F := (fun g => fs3 ad b g)) (fun g => so_11 hb J ad g) rfl hdg kk
theorem fg_X5_171 {b : Nat} (hb : IsB b) (X : Cx p c cc s m RX5 args nL) (h : HG J z ad s G H locs) (hdg : decode cc pc = .ok (.getfield 171, 3)) (kk : W p l e R s m args below meth c H locs cells slots Q (F0 m (pc + 3) ls (.ref (ad (b + 9)) :: rest))) : W p l e R s m args below meth c H locs cells slots Q (F0 m pc ls (.ref (ad (b + 7)) :: rest)) :=
  rg_get X h (ci := 1) in0_X1 rfl 1 (by decide) mw_350 (b + 7) (hb.lt (c := 7) (by decide)) (F := (fun g => fs1 ad b g)) (fun g => so_7 hb J ad g) rfl hdg kk
theorem fg_X5_174 {b : Nat} (hb : IsB b) (X : Cx p c cc s m RX5 args nL) (h : HG J z ad s G H locs) (hdg : decode cc pc = .ok (.getfield 174, 3)) (kk : W p l e R s m args below meth c H locs cells slots Q (F0 m (pc + 3) ls (.ref (ad (b + 8)) :: rest))) : W p l e R s m args below meth c H locs cells slots Q (F0 m pc ls (.ref (ad (b + 7)) :: rest)) :=
  rg_get X h (ci := 1) in0_X1 rfl 0 (by decide) mw_351 (b + 7) (hb.lt (c := 7) (by decide)) (F := (fun g => fs1 ad b g)) (fun g => so_7 hb J ad g) rfl hdg kk
theorem fg_X5_177 {b : Nat} (hb : IsB b) (X : Cx p c cc s m RX5 args nL) (h : HG J z ad s G H locs) (hdg : decode cc pc = .ok (.getfield 177, 3)) (kk : W p l e R s m args below meth c H locs cells slots Q (F0 m (pc + 3) ls (.ref (ad (b + 10)) :: rest))) : W p l e R s m args below meth c H locs cells slots Q (F0 m pc ls (.ref (ad (b + 7)) :: rest)) :=
  rg_get X h (ci := 1) in0_X1 rfl 2 (by decide) mw_352 (b + 7) (hb.lt (c := 7) (by decide)) (F := (fun g => fs1 ad b g)) (fun g => so_7 hb J ad g) rfl hdg kk
theorem fg_X6_27 {b : Nat} (hb : IsB b) (X : Cx p c cc s m RX6 args nL) (h : HG J z ad s G H locs) (hdg : decode cc pc = .ok (.getfield 27, 3)) (kk : W p l e R s m args below meth c H locs cells slots Q (F0 m (pc + 3) ls (.int (G (b + 1) 0) :: rest))) : W p l e R s m args below meth c H locs cells slots Q (F0 m pc ls (.ref (ad (b + 1)) :: rest)) :=
  rg_get X h (ci := 6) in0_X6 rfl 0 (by decide) mw_128 (b + 1) (hb.lt (c := 1) (by decide)) (F := (fun g => fs6 ad b g)) (fun g => so_1 hb J ad g) rfl hdg kk
theorem fp_X6_27 {b : Nat} (hb : IsB b) (X : Cx p c cc s m RX6 args nL) (h : HG J z ad s G H locs) {v : Int32} (hdg : decode cc pc = .ok (.putfield 27, 3)) (kk : ∀ (H1 : Heap) (locs1 : List Loc), HG J z ad s (u1 G (b + 1) (upd (G (b + 1)) 0 v)) H1 locs1 → W p l e R s m args below meth c H1 locs1 cells slots Q (F0 m (pc + 3) ls rest)) : W p l e R s m args below meth c H locs cells slots Q (F0 m pc ls (.int v :: .ref (ad (b + 1)) :: rest)) :=
  rg_put X h (ci := 6) in0_X6 tyX6 tyX6_ok nmX6 rfl 0 (by decide) mw_128 rfl (b + 1) (hb.lt (c := 1) (by decide)) (F := (fun g => fs6 ad b g)) (fun g => so_1 hb J ad g) (fun _ => Nat.le_of_ble_eq_true rfl) (fun _ => rfl) rfl rfl hdg kk
theorem fg_X6_9 {b : Nat} (hb : IsB b) (X : Cx p c cc s m RX6 args nL) (h : HG J z ad s G H locs) (hdg : decode cc pc = .ok (.getfield 9, 3)) (kk : W p l e R s m args below meth c H locs cells slots Q (F0 m (pc + 3) ls (.ref (ad (b + 2)) :: rest))) : W p l e R s m args below meth c H locs cells slots Q (F0 m pc ls (.ref (ad (b + 1)) :: rest)) :=
  rg_get X h (ci := 6) in0_X6 rfl 1 (by decide) mw_54 (b + 1) (hb.lt (c := 1) (by decide)) (F := (fun g => fs6 ad b g)) (fun g => so_1 hb J ad g) rfl hdg kk
theorem fg_X6_15 {b : Nat} (hb : IsB b) (X : Cx p c cc s m RX6 args nL) (h : HG J z ad s G H locs) (hdg : decode cc pc = .ok (.getfield 15, 3)) (kk : W p l e R s m args below meth c H locs cells slots Q (F0 m (pc + 3) ls (.ref (ad (b + 3)) :: rest))) : W p l e R s m args below meth c H locs cells slots Q (F0 m pc ls (.ref (ad (b + 1)) :: rest)) :=
  rg_get X h (ci := 6) in0_X6 rfl 2 (by decide) mw_55 (b + 1) (hb.lt (c := 1) (by decide)) (F := (fun g => fs6 ad b g)) (fun g => so_1 hb J ad g) rfl hdg kk
theorem fg_X6_18 {b : Nat} (hb : IsB b) (X : Cx p c cc s m RX6 args nL) (h : HG J z ad s G H locs) (hdg : decode cc pc = .ok (.getfield 18, 3)) (kk : W p l e R s m args below meth c H locs cells slots Q (F0 m (pc + 3) ls (.ref (ad (b + 4)) :: rest))) : W p l e R s m args below meth c H locs cells slots Q (F0 m pc ls (.ref (ad (b + 1)) :: rest)) :=
  rg_get X h (ci := 6) in0_X6 rfl 3 (by decide) mw_56 (b + 1) (hb.lt (c := 1) (by decide)) (F := (fun g => fs6 ad b g)) (fun g => so_1 hb J ad g) rfl hdg kk
theorem fg_X6_21 {b : Nat} (hb : IsB b) (X : Cx p c cc s m RX6 args nL) (h : HG J z ad s G H locs) (hdg : decode cc pc = .ok (.getfield 21, 3)) (kk : W p l e R s m args below meth c H locs cells slots Q (F0 m (pc + 3) ls (.ref (ad (b + 5)) :: rest))) : W p l e R s m args below meth c H locs cells slots Q (F0 m pc ls (.ref (ad (b + 1)) :: rest)) :=
  rg_get X h (ci := 6) in0_X6 rfl 4 (by decide) mw_57 (b + 1) (hb.lt (c := 1) (by decide)) (F := (fun g => fs6 ad b g)) (fun g => so_1 hb J ad g) rfl hdg kk
theorem fg_X6_24 {b : Nat} (hb : IsB b) (X : Cx p c cc s m RX6 args nL) (h : HG J z ad s G H locs) (hdg : decode cc pc = .ok (.getfield 24, 3)) (kk : W p l e R s m args below meth c H locs cells slots Q (F0 m (pc + 3) ls (.ref (ad (b + 6)) :: rest))) : W p l e R s m args below meth c H locs cells slots Q (F0 m pc ls (.ref (ad (b + 1)) :: rest)) :=
  rg_get X h (ci := 6) in0_X6 rfl 5 (by decide) mw_58 (b + 1) (hb.lt (c := 1) (by decide)) (F := (fun g => fs6 ad b g)) (fun g => so_1 hb J ad g) rfl hdg kk
theorem rg_civd (X : Cx p c cc s m own args nL) (hl : ls.size = nL) (h : HG J z ad s G H locs) {y : MethodName} {bytes : ByteArray} {mx : Nat} {ty : FieldType} {d k : Nat} {As : List Value} {E : Int32} {G1 : GG} (hM : MI l J z ad y bytes mx ty d (.ref (ad k) :: As) G (fun r u => r = E ∧ u = G1)) {index : Nat} (w1 : Cond.methodLink own index y ∈ ws0) (w2 : Cond.instanceMethod y ∈ ws0) (w3 : Cond.selects y.cls y y ∈ ws0) (w4 : Cond.initialized y.cls ∈ ws0) (w5 : Cond.code y bytes mx (some ty) ∈ ws0)
    (hd : y.cls = y.cls ∧ y.cls ≠ "java/lang/invoke/MethodHandle" ∧ y.cls ≠ "java/lang/invoke/VarHandle" ∧ (parseMethodDescriptor y.desc).map (fun d => d.parameters.length) = some As.length) (hk : k < 215) {ci : Nat} {fs : List Value} {q : vw_C} (he : shC J ad k (G k) = .inr (ci, fs)) (hc : vwCl[ci]? = some q) (hq : q.1 = y.cls) (hR : d + 1 ≤ R.frames ∧ 8 + (mx + 11) + 30 * d ≤ R.locals) (hf : cells + 0 ≤ R.cells ∧ slots + 0 ≤ R.slots) {st : List Value} (hst : st = As.reverse ++ .ref (ad k) :: rest) (hrest : (rest.map fun v => v.category).sum ≤ 8) (hdg : decode cc pc = .ok (.invokevirtual index, 3)) (kk : ∀ (H1 : Heap) (locs1 : List Loc), HG J z ad s G1 H1 locs1 → W p l e R s m args below meth c H1 locs1 cells slots Q (F0 m (pc + 3) ls (.int E :: rest))) : W p l e R s m args below meth c H locs cells slots Q (F0 m pc ls st) :=
  rg_civ X hl h hM w1 w2 w3 w4 w5 hd hk he hc hq hR hf hst hrest hdg (fun r u H1 locs1 hp h1 => by
    obtain ⟨rfl, rfl⟩ := hp
    exact kk H1 locs1 h1)
theorem rg_cvvd (X : Cx p c cc s m own args nL) (hl : ls.size = nL) (h : HG J z ad s G H locs) {y : MethodName} {bytes : ByteArray} {mx : Nat} {d k : Nat} {As : List Value} {G1 : GG} (hM : MV l J z ad y bytes mx d (.ref (ad k) :: As) G (fun u => u = G1)) {index : Nat} (w1 : Cond.methodLink own index y ∈ ws0) (w2 : Cond.instanceMethod y ∈ ws0) (w3 : Cond.selects y.cls y y ∈ ws0) (w4 : Cond.initialized y.cls ∈ ws0) (w5 : Cond.code y bytes mx none ∈ ws0)
    (hd : y.cls = y.cls ∧ y.cls ≠ "java/lang/invoke/MethodHandle" ∧ y.cls ≠ "java/lang/invoke/VarHandle" ∧ (parseMethodDescriptor y.desc).map (fun d => d.parameters.length) = some As.length) (hk : k < 215) {ci : Nat} {fs : List Value} {q : vw_C} (he : shC J ad k (G k) = .inr (ci, fs)) (hc : vwCl[ci]? = some q) (hq : q.1 = y.cls) (hR : d + 1 ≤ R.frames ∧ 8 + (mx + 11) + 30 * d ≤ R.locals) (hf : cells + 0 ≤ R.cells ∧ slots + 0 ≤ R.slots) {st : List Value} (hst : st = As.reverse ++ .ref (ad k) :: rest) (hrest : (rest.map fun v => v.category).sum ≤ 8) (hdg : decode cc pc = .ok (.invokevirtual index, 3)) (kk : ∀ (H1 : Heap) (locs1 : List Loc), HG J z ad s G1 H1 locs1 → W p l e R s m args below meth c H1 locs1 cells slots Q (F0 m (pc + 3) ls rest)) : W p l e R s m args below meth c H locs cells slots Q (F0 m pc ls st) :=
  rg_cvv X hl h hM w1 w2 w3 w4 w5 hd hk he hc hq hR hf hst hrest hdg (fun u H1 locs1 hp h1 => by
    obtain rfl := hp
    exact kk H1 locs1 h1)
theorem rg_cisd (X : Cx p c cc s m own args nL) (hl : ls.size = nL) (h : HG J z ad s G H locs) {y : MethodName} {bytes : ByteArray} {mx : Nat} {ty : FieldType} {d : Nat} {As : List Value} {E : Int32} {G1 : GG} (hM : MI l J z ad y bytes mx ty d As G (fun r u => r = E ∧ u = G1)) {index : Nat} (w1 : Cond.methodLink own index y ∈ ws0) (w2 : Cond.static y ∈ ws0) (w4 : Cond.initialized own ∈ ws0) (w5 : Cond.code y bytes mx (some ty) ∈ ws0)
    (hd : y.cls = own ∧ y.cls ≠ "java/lang/invoke/MethodHandle" ∧ y.cls ≠ "java/lang/invoke/VarHandle" ∧ (parseMethodDescriptor y.desc).map (fun d => d.parameters.length) = some As.length) (hR : d + 1 ≤ R.frames ∧ 8 + (mx + 11) + 30 * d ≤ R.locals) (hf : cells + 0 ≤ R.cells ∧ slots + 0 ≤ R.slots) {st : List Value} (hst : st = As.reverse ++ rest) (hrest : (rest.map fun v => v.category).sum ≤ 8) (hdg : decode cc pc = .ok (.invokestatic index, 3)) (kk : ∀ (H1 : Heap) (locs1 : List Loc), HG J z ad s G1 H1 locs1 → W p l e R s m args below meth c H1 locs1 cells slots Q (F0 m (pc + 3) ls (.int E :: rest))) : W p l e R s m args below meth c H locs cells slots Q (F0 m pc ls st) :=
  rg_cis X hl h hM w1 w2 w4 w5 hd hR hf hst hrest hdg (fun r u H1 locs1 hp h1 => by
    obtain ⟨rfl, rfl⟩ := hp
    exact kk H1 locs1 h1)
theorem rs_ld (X : Cx p c cc s m own args nL) (h : HG J z ad s G H locs) {i : Int32} (B o : Nat) (hi : i = nI (B + o)) (hj : B + o < 4896) (hdg : decode cc pc = .ok (.iaload, 1))
    (kk : W p l e R s m args below meth c H locs cells slots Q (F0 m (pc + 1) ls (.int (rwS (G 211) B o) :: rest))) : W p l e R s m args below meth c H locs cells slots Q (F0 m pc ls (.int i :: .ref (ad 211) :: rest)) :=
  rg_ild X h 211 (by decide) (xa_211 J ad) (B + o) hi hj (by decide) hdg kk
theorem MI.go {y : MethodName} {mx : Nat} {d : Nat} {av : List Value} {post : Int32 → GG → Prop} (hy : plainName y.cls = true) (hlen : (lg_sl av).length ≤ mx)
    (body : ∀ (p : Program) (e : Env) (s : State) (m : MethodId) (args : Array Value) (below : List Frame) (meth : Method) (c : Code) (ls : Array Slot) (Q : State → Prop), Cx p c cc s m y.cls args mx → HG J z ad s G s.heap [] → lv_has ls mx (lv_args 0 av) →
      (∀ (v : Int32) (G1 : GG) (H : Heap) (locs : List Loc) (pc : Nat) (ls : Array Slot), post v G1 → HG J z ad s G1 H locs → decode cc pc = .ok (.ireturn, 1) → W p l e (rmD d 0 0) s m args below meth c H locs 0 0 Q (F0 m pc ls [.int v])) →
      W p l e (rmD d 0 0) s m args below meth c s.heap [] 0 0 Q (F0 m 0 ls [])) : MI l J z ad y cc mx .int d av G post :=
  MI.walk hy hlen (fun p e s m below meth c ls X hr hlk h hl => body p e s m _ below meth c ls _ X h hl (fun v G1 H locs pc ls hp h hdg => rg_ret X hr hlk h hp hdg))
theorem MZ.go {y : MethodName} {mx : Nat} {d : Nat} {av : List Value} {post : Int32 → GG → Prop} (hy : plainName y.cls = true) (hlen : (lg_sl av).length ≤ mx)
    (body : ∀ (p : Program) (e : Env) (s : State) (m : MethodId) (args : Array Value) (below : List Frame) (meth : Method) (c : Code) (ls : Array Slot) (Q : State → Prop), Cx p c cc s m y.cls args mx → HG J z ad s G s.heap [] → lv_has ls mx (lv_args 0 av) →
      (∀ (v : Int32) (G1 : GG) (H : Heap) (locs : List Loc) (pc : Nat) (ls : Array Slot), post v G1 → HG J z ad s G1 H locs → narrow .boolean (.int v) = .int v → decode cc pc = .ok (.ireturn, 1) → W p l e (rmD d 0 0) s m args below meth c H locs 0 0 Q (F0 m pc ls [.int v])) →
      W p l e (rmD d 0 0) s m args below meth c s.heap [] 0 0 Q (F0 m 0 ls [])) : MI l J z ad y cc mx .boolean d av G post :=
  MI.walk hy hlen (fun p e s m below meth c ls X hr hlk h hl => body p e s m _ below meth c ls _ X h hl (fun v G1 H locs pc ls hp h hn hdg => rg_zret X hr hlk h hn hp hdg))
theorem MV.go {y : MethodName} {mx : Nat} {d : Nat} {av : List Value} {post : GG → Prop} (hy : plainName y.cls = true) (hlen : (lg_sl av).length ≤ mx)
    (body : ∀ (p : Program) (e : Env) (s : State) (m : MethodId) (args : Array Value) (below : List Frame) (meth : Method) (c : Code) (ls : Array Slot) (Q : State → Prop), Cx p c cc s m y.cls args mx → HG J z ad s G s.heap [] → lv_has ls mx (lv_args 0 av) →
      (∀ (G1 : GG) (H : Heap) (locs : List Loc) (pc : Nat) (ls : Array Slot), post G1 → HG J z ad s G1 H locs → decode cc pc = .ok (.return_, 1) → W p l e (rmD d 0 0) s m args below meth c H locs 0 0 Q (F0 m pc ls [])) →
      W p l e (rmD d 0 0) s m args below meth c s.heap [] 0 0 Q (F0 m 0 ls [])) : MV l J z ad y cc mx d av G post :=
  MV.walk hy hlen (fun p e s m below meth c ls X hr hlk h hl => body p e s m _ below meth c ls _ X h hl (fun G1 H locs pc ls hp h hdg => rg_vret X hr hlk h hp hdg))
theorem rs_st (X : Cx p c cc s m own args nL) {B : Nat} {r : Nat → Int32} (h : HG J z ad s (RG G B r) H locs) {i x : Int32} (o : Nat) (hi : i = nI (B + o)) (hj : B + o < 4896) (hdg : decode cc pc = .ok (.iastore, 1))
    (kk : ∀ (H1 : Heap) (locs1 : List Loc), HG J z ad s (RG G B (upd r o x)) H1 locs1 → W p l e R s m args below meth c H1 locs1 cells slots Q (F0 m (pc + 1) ls rest)) : W p l e R s m args below meth c H locs cells slots Q (F0 m pc ls (.int x :: .int i :: .ref (ad 211) :: rest)) :=
  rg_ist X h 211 (by decide) (xa_211 J ad) (B + o) hi hj (by decide) hdg (fun H1 locs1 h1 => kk H1 locs1 (by rw [RG_upd] at h1; exact h1))
end FIELDS
theorem pdX0_init : yX0_init.cls = RX0 ∧ yX0_init.cls ≠ "java/lang/invoke/MethodHandle" ∧ yX0_init.cls ≠ "java/lang/invoke/VarHandle" ∧ (parseMethodDescriptor yX0_init.desc).map (fun d => d.parameters.length) = some 0 := by decide +kernel
theorem pdX0_remember : yX0_remember.cls = RX0 ∧ yX0_remember.cls ≠ "java/lang/invoke/MethodHandle" ∧ yX0_remember.cls ≠ "java/lang/invoke/VarHandle" ∧ (parseMethodDescriptor yX0_remember.desc).map (fun d => d.parameters.length) = some 1 := by decide +kernel
theorem pdX0_takeBack : yX0_takeBack.cls = RX0 ∧ yX0_takeBack.cls ≠ "java/lang/invoke/MethodHandle" ∧ yX0_takeBack.cls ≠ "java/lang/invoke/VarHandle" ∧ (parseMethodDescriptor yX0_takeBack.desc).map (fun d => d.parameters.length) = some 1 := by decide +kernel
theorem pdX1_init : yX1_init.cls = RX1 ∧ yX1_init.cls ≠ "java/lang/invoke/MethodHandle" ∧ yX1_init.cls ≠ "java/lang/invoke/VarHandle" ∧ (parseMethodDescriptor yX1_init.desc).map (fun d => d.parameters.length) = some 0 := by decide +kernel
theorem pdX1_copyFrom : yX1_copyFrom.cls = RX1 ∧ yX1_copyFrom.cls ≠ "java/lang/invoke/MethodHandle" ∧ yX1_copyFrom.cls ≠ "java/lang/invoke/VarHandle" ∧ (parseMethodDescriptor yX1_copyFrom.desc).map (fun d => d.parameters.length) = some 1 := by decide +kernel
theorem pdX1_stanceOf : yX1_stanceOf.cls = RX1 ∧ yX1_stanceOf.cls ≠ "java/lang/invoke/MethodHandle" ∧ yX1_stanceOf.cls ≠ "java/lang/invoke/VarHandle" ∧ (parseMethodDescriptor yX1_stanceOf.desc).map (fun d => d.parameters.length) = some 2 := by decide +kernel
theorem pdX1_strengthOf : yX1_strengthOf.cls = RX1 ∧ yX1_strengthOf.cls ≠ "java/lang/invoke/MethodHandle" ∧ yX1_strengthOf.cls ≠ "java/lang/invoke/VarHandle" ∧ (parseMethodDescriptor yX1_strengthOf.desc).map (fun d => d.parameters.length) = some 2 := by decide +kernel
theorem pdX1_size : yX1_size.cls = RX1 ∧ yX1_size.cls ≠ "java/lang/invoke/MethodHandle" ∧ yX1_size.cls ≠ "java/lang/invoke/VarHandle" ∧ (parseMethodDescriptor yX1_size.desc).map (fun d => d.parameters.length) = some 0 := by decide +kernel
theorem pdX1_rankOf : yX1_rankOf.cls = RX1 ∧ yX1_rankOf.cls ≠ "java/lang/invoke/MethodHandle" ∧ yX1_rankOf.cls ≠ "java/lang/invoke/VarHandle" ∧ (parseMethodDescriptor yX1_rankOf.desc).map (fun d => d.parameters.length) = some 1 := by decide +kernel
theorem pdX1_spotAt : yX1_spotAt.cls = RX1 ∧ yX1_spotAt.cls ≠ "java/lang/invoke/MethodHandle" ∧ yX1_spotAt.cls ≠ "java/lang/invoke/VarHandle" ∧ (parseMethodDescriptor yX1_spotAt.desc).map (fun d => d.parameters.length) = some 1 := by decide +kernel
theorem pdX1_rulingPlace : yX1_rulingPlace.cls = RX1 ∧ yX1_rulingPlace.cls ≠ "java/lang/invoke/MethodHandle" ∧ yX1_rulingPlace.cls ≠ "java/lang/invoke/VarHandle" ∧ (parseMethodDescriptor yX1_rulingPlace.desc).map (fun d => d.parameters.length) = some 2 := by decide +kernel
theorem pdX1_isForbidden : yX1_isForbidden.cls = RX1 ∧ yX1_isForbidden.cls ≠ "java/lang/invoke/MethodHandle" ∧ yX1_isForbidden.cls ≠ "java/lang/invoke/VarHandle" ∧ (parseMethodDescriptor yX1_isForbidden.desc).map (fun d => d.parameters.length) = some 2 := by decide +kernel
theorem pdX1_forbidding : yX1_forbidding.cls = RX1 ∧ yX1_forbidding.cls ≠ "java/lang/invoke/MethodHandle" ∧ yX1_forbidding.cls ≠ "java/lang/invoke/VarHandle" ∧ (parseMethodDescriptor yX1_forbidding.desc).map (fun d => d.parameters.length) = some 0 := by decide +kernel
theorem pdX1_forbiddenDoings : yX1_forbiddenDoings.cls = RX1 ∧ yX1_forbiddenDoings.cls ≠ "java/lang/invoke/MethodHandle" ∧ yX1_forbiddenDoings.cls ≠ "java/lang/invoke/VarHandle" ∧ (parseMethodDescriptor yX1_forbiddenDoings.desc).map (fun d => d.parameters.length) = some 0 := by decide +kernel
theorem pdX1_oldestSpot : yX1_oldestSpot.cls = RX1 ∧ yX1_oldestSpot.cls ≠ "java/lang/invoke/MethodHandle" ∧ yX1_oldestSpot.cls ≠ "java/lang/invoke/VarHandle" ∧ (parseMethodDescriptor yX1_oldestSpot.desc).map (fun d => d.parameters.length) = some 1 := by decide +kernel
theorem pdX2_init : yX2_init.cls = RX2 ∧ yX2_init.cls ≠ "java/lang/invoke/MethodHandle" ∧ yX2_init.cls ≠ "java/lang/invoke/VarHandle" ∧ (parseMethodDescriptor yX2_init.desc).map (fun d => d.parameters.length) = some 0 := by decide +kernel
theorem pdX2_append : yX2_append.cls = RX2 ∧ yX2_append.cls ≠ "java/lang/invoke/MethodHandle" ∧ yX2_append.cls ≠ "java/lang/invoke/VarHandle" ∧ (parseMethodDescriptor yX2_append.desc).map (fun d => d.parameters.length) = some 1 := by decide +kernel
theorem pdX2_empty : yX2_empty.cls = RX2 ∧ yX2_empty.cls ≠ "java/lang/invoke/MethodHandle" ∧ yX2_empty.cls ≠ "java/lang/invoke/VarHandle" ∧ (parseMethodDescriptor yX2_empty.desc).map (fun d => d.parameters.length) = some 0 := by decide +kernel
theorem pdX2_read : yX2_read.cls = RX2 ∧ yX2_read.cls ≠ "java/lang/invoke/MethodHandle" ∧ yX2_read.cls ≠ "java/lang/invoke/VarHandle" ∧ (parseMethodDescriptor yX2_read.desc).map (fun d => d.parameters.length) = some 0 := by decide +kernel
theorem pdX2_readThing : yX2_readThing.cls = RX2 ∧ yX2_readThing.cls ≠ "java/lang/invoke/MethodHandle" ∧ yX2_readThing.cls ≠ "java/lang/invoke/VarHandle" ∧ (parseMethodDescriptor yX2_readThing.desc).map (fun d => d.parameters.length) = some 1 := by decide +kernel
theorem pdX2_readPetition : yX2_readPetition.cls = RX2 ∧ yX2_readPetition.cls ≠ "java/lang/invoke/MethodHandle" ∧ yX2_readPetition.cls ≠ "java/lang/invoke/VarHandle" ∧ (parseMethodDescriptor yX2_readPetition.desc).map (fun d => d.parameters.length) = some 1 := by decide +kernel
theorem pdX2_readSeconding : yX2_readSeconding.cls = RX2 ∧ yX2_readSeconding.cls ≠ "java/lang/invoke/MethodHandle" ∧ yX2_readSeconding.cls ≠ "java/lang/invoke/VarHandle" ∧ (parseMethodDescriptor yX2_readSeconding.desc).map (fun d => d.parameters.length) = some 1 := by decide +kernel
theorem pdX2_readKind : yX2_readKind.cls = RX2 ∧ yX2_readKind.cls ≠ "java/lang/invoke/MethodHandle" ∧ yX2_readKind.cls ≠ "java/lang/invoke/VarHandle" ∧ (parseMethodDescriptor yX2_readKind.desc).map (fun d => d.parameters.length) = some 0 := by decide +kernel
theorem pdX2_readNumber : yX2_readNumber.cls = RX2 ∧ yX2_readNumber.cls ≠ "java/lang/invoke/MethodHandle" ∧ yX2_readNumber.cls ≠ "java/lang/invoke/VarHandle" ∧ (parseMethodDescriptor yX2_readNumber.desc).map (fun d => d.parameters.length) = some 2 := by decide +kernel
theorem pdX2_digitHere : yX2_digitHere.cls = RX2 ∧ yX2_digitHere.cls ≠ "java/lang/invoke/MethodHandle" ∧ yX2_digitHere.cls ≠ "java/lang/invoke/VarHandle" ∧ (parseMethodDescriptor yX2_digitHere.desc).map (fun d => d.parameters.length) = some 0 := by decide +kernel
theorem pdX2_skip : yX2_skip.cls = RX2 ∧ yX2_skip.cls ≠ "java/lang/invoke/MethodHandle" ∧ yX2_skip.cls ≠ "java/lang/invoke/VarHandle" ∧ (parseMethodDescriptor yX2_skip.desc).map (fun d => d.parameters.length) = some 1 := by decide +kernel
theorem pdX3_init : yX3_init.cls = RX3 ∧ yX3_init.cls ≠ "java/lang/invoke/MethodHandle" ∧ yX3_init.cls ≠ "java/lang/invoke/VarHandle" ∧ (parseMethodDescriptor yX3_init.desc).map (fun d => d.parameters.length) = some 0 := by decide +kernel
theorem pdX3_copyFrom : yX3_copyFrom.cls = RX3 ∧ yX3_copyFrom.cls ≠ "java/lang/invoke/MethodHandle" ∧ yX3_copyFrom.cls ≠ "java/lang/invoke/VarHandle" ∧ (parseMethodDescriptor yX3_copyFrom.desc).map (fun d => d.parameters.length) = some 1 := by decide +kernel
theorem pdX3_has : yX3_has.cls = RX3 ∧ yX3_has.cls ≠ "java/lang/invoke/MethodHandle" ∧ yX3_has.cls ≠ "java/lang/invoke/VarHandle" ∧ (parseMethodDescriptor yX3_has.desc).map (fun d => d.parameters.length) = some 1 := by decide +kernel
theorem pdX3_add : yX3_add.cls = RX3 ∧ yX3_add.cls ≠ "java/lang/invoke/MethodHandle" ∧ yX3_add.cls ≠ "java/lang/invoke/VarHandle" ∧ (parseMethodDescriptor yX3_add.desc).map (fun d => d.parameters.length) = some 5 := by decide +kernel
theorem pdX3_madeBy : yX3_madeBy.cls = RX3 ∧ yX3_madeBy.cls ≠ "java/lang/invoke/MethodHandle" ∧ yX3_madeBy.cls ≠ "java/lang/invoke/VarHandle" ∧ (parseMethodDescriptor yX3_madeBy.desc).map (fun d => d.parameters.length) = some 1 := by decide +kernel
theorem pdX3_makers : yX3_makers.cls = RX3 ∧ yX3_makers.cls ≠ "java/lang/invoke/MethodHandle" ∧ yX3_makers.cls ≠ "java/lang/invoke/VarHandle" ∧ (parseMethodDescriptor yX3_makers.desc).map (fun d => d.parameters.length) = some 0 := by decide +kernel
theorem pdX3_secondedBy : yX3_secondedBy.cls = RX3 ∧ yX3_secondedBy.cls ≠ "java/lang/invoke/MethodHandle" ∧ yX3_secondedBy.cls ≠ "java/lang/invoke/VarHandle" ∧ (parseMethodDescriptor yX3_secondedBy.desc).map (fun d => d.parameters.length) = some 1 := by decide +kernel
theorem pdX3_atRank : yX3_atRank.cls = RX3 ∧ yX3_atRank.cls ≠ "java/lang/invoke/MethodHandle" ∧ yX3_atRank.cls ≠ "java/lang/invoke/VarHandle" ∧ (parseMethodDescriptor yX3_atRank.desc).map (fun d => d.parameters.length) = some 1 := by decide +kernel
theorem pdX3_rankOf : yX3_rankOf.cls = RX3 ∧ yX3_rankOf.cls ≠ "java/lang/invoke/MethodHandle" ∧ yX3_rankOf.cls ≠ "java/lang/invoke/VarHandle" ∧ (parseMethodDescriptor yX3_rankOf.desc).map (fun d => d.parameters.length) = some 1 := by decide +kernel
theorem pdX4_init : yX4_init.cls = RX4 ∧ yX4_init.cls ≠ "java/lang/invoke/MethodHandle" ∧ yX4_init.cls ≠ "java/lang/invoke/VarHandle" ∧ (parseMethodDescriptor yX4_init.desc).map (fun d => d.parameters.length) = some 0 := by decide +kernel
theorem pdX4_copyFrom : yX4_copyFrom.cls = RX4 ∧ yX4_copyFrom.cls ≠ "java/lang/invoke/MethodHandle" ∧ yX4_copyFrom.cls ≠ "java/lang/invoke/VarHandle" ∧ (parseMethodDescriptor yX4_copyFrom.desc).map (fun d => d.parameters.length) = some 1 := by decide +kernel
theorem pdX4_add : yX4_add.cls = RX4 ∧ yX4_add.cls ≠ "java/lang/invoke/MethodHandle" ∧ yX4_add.cls ≠ "java/lang/invoke/VarHandle" ∧ (parseMethodDescriptor yX4_add.desc).map (fun d => d.parameters.length) = some 2 := by decide +kernel
theorem pdX4_greatestSupport : yX4_greatestSupport.cls = RX4 ∧ yX4_greatestSupport.cls ≠ "java/lang/invoke/MethodHandle" ∧ yX4_greatestSupport.cls ≠ "java/lang/invoke/VarHandle" ∧ (parseMethodDescriptor yX4_greatestSupport.desc).map (fun d => d.parameters.length) = some 3 := by decide +kernel
theorem pdX5_init : yX5_init.cls = RX5 ∧ yX5_init.cls ≠ "java/lang/invoke/MethodHandle" ∧ yX5_init.cls ≠ "java/lang/invoke/VarHandle" ∧ (parseMethodDescriptor yX5_init.desc).map (fun d => d.parameters.length) = some 0 := by decide +kernel
theorem pdX5_copyFrom : yX5_copyFrom.cls = RX5 ∧ yX5_copyFrom.cls ≠ "java/lang/invoke/MethodHandle" ∧ yX5_copyFrom.cls ≠ "java/lang/invoke/VarHandle" ∧ (parseMethodDescriptor yX5_copyFrom.desc).map (fun d => d.parameters.length) = some 1 := by decide +kernel
theorem pdX5_addDrone : yX5_addDrone.cls = RX5 ∧ yX5_addDrone.cls ≠ "java/lang/invoke/MethodHandle" ∧ yX5_addDrone.cls ≠ "java/lang/invoke/VarHandle" ∧ (parseMethodDescriptor yX5_addDrone.desc).map (fun d => d.parameters.length) = some 2 := by decide +kernel
theorem pdX5_moveDrone : yX5_moveDrone.cls = RX5 ∧ yX5_moveDrone.cls ≠ "java/lang/invoke/MethodHandle" ∧ yX5_moveDrone.cls ≠ "java/lang/invoke/VarHandle" ∧ (parseMethodDescriptor yX5_moveDrone.desc).map (fun d => d.parameters.length) = some 2 := by decide +kernel
theorem pdX5_addPetition : yX5_addPetition.cls = RX5 ∧ yX5_addPetition.cls ≠ "java/lang/invoke/MethodHandle" ∧ yX5_addPetition.cls ≠ "java/lang/invoke/VarHandle" ∧ (parseMethodDescriptor yX5_addPetition.desc).map (fun d => d.parameters.length) = some 4 := by decide +kernel
theorem pdX5_addSeconder : yX5_addSeconder.cls = RX5 ∧ yX5_addSeconder.cls ≠ "java/lang/invoke/MethodHandle" ∧ yX5_addSeconder.cls ≠ "java/lang/invoke/VarHandle" ∧ (parseMethodDescriptor yX5_addSeconder.desc).map (fun d => d.parameters.length) = some 2 := by decide +kernel
theorem pdX5_endDays : yX5_endDays.cls = RX5 ∧ yX5_endDays.cls ≠ "java/lang/invoke/MethodHandle" ∧ yX5_endDays.cls ≠ "java/lang/invoke/VarHandle" ∧ (parseMethodDescriptor yX5_endDays.desc).map (fun d => d.parameters.length) = some 1 := by decide +kernel
theorem pdX5_changeSetting : yX5_changeSetting.cls = RX5 ∧ yX5_changeSetting.cls ≠ "java/lang/invoke/MethodHandle" ∧ yX5_changeSetting.cls ≠ "java/lang/invoke/VarHandle" ∧ (parseMethodDescriptor yX5_changeSetting.desc).map (fun d => d.parameters.length) = some 2 := by decide +kernel
theorem pdX5_endSeason : yX5_endSeason.cls = RX5 ∧ yX5_endSeason.cls ≠ "java/lang/invoke/MethodHandle" ∧ yX5_endSeason.cls ≠ "java/lang/invoke/VarHandle" ∧ (parseMethodDescriptor yX5_endSeason.desc).map (fun d => d.parameters.length) = some 0 := by decide +kernel
theorem pdX5_hearPetitions : yX5_hearPetitions.cls = RX5 ∧ yX5_hearPetitions.cls ≠ "java/lang/invoke/MethodHandle" ∧ yX5_hearPetitions.cls ≠ "java/lang/invoke/VarHandle" ∧ (parseMethodDescriptor yX5_hearPetitions.desc).map (fun d => d.parameters.length) = some 0 := by decide +kernel
theorem pdX5_reasonToRefuse : yX5_reasonToRefuse.cls = RX5 ∧ yX5_reasonToRefuse.cls ≠ "java/lang/invoke/MethodHandle" ∧ yX5_reasonToRefuse.cls ≠ "java/lang/invoke/VarHandle" ∧ (parseMethodDescriptor yX5_reasonToRefuse.desc).map (fun d => d.parameters.length) = some 2 := by decide +kernel
theorem pdX5_grant : yX5_grant.cls = RX5 ∧ yX5_grant.cls ≠ "java/lang/invoke/MethodHandle" ∧ yX5_grant.cls ≠ "java/lang/invoke/VarHandle" ∧ (parseMethodDescriptor yX5_grant.desc).map (fun d => d.parameters.length) = some 1 := by decide +kernel
theorem pdX6_init : yX6_init.cls = RX6 ∧ yX6_init.cls ≠ "java/lang/invoke/MethodHandle" ∧ yX6_init.cls ≠ "java/lang/invoke/VarHandle" ∧ (parseMethodDescriptor yX6_init.desc).map (fun d => d.parameters.length) = some 0 := by decide +kernel
theorem pdX6_copyFrom : yX6_copyFrom.cls = RX6 ∧ yX6_copyFrom.cls ≠ "java/lang/invoke/MethodHandle" ∧ yX6_copyFrom.cls ≠ "java/lang/invoke/VarHandle" ∧ (parseMethodDescriptor yX6_copyFrom.desc).map (fun d => d.parameters.length) = some 1 := by decide +kernel
theorem pdX6_knows : yX6_knows.cls = RX6 ∧ yX6_knows.cls ≠ "java/lang/invoke/MethodHandle" ∧ yX6_knows.cls ≠ "java/lang/invoke/VarHandle" ∧ (parseMethodDescriptor yX6_knows.desc).map (fun d => d.parameters.length) = some 1 := by decide +kernel
theorem pdX6_add : yX6_add.cls = RX6 ∧ yX6_add.cls ≠ "java/lang/invoke/MethodHandle" ∧ yX6_add.cls ≠ "java/lang/invoke/VarHandle" ∧ (parseMethodDescriptor yX6_add.desc).map (fun d => d.parameters.length) = some 2 := by decide +kernel
theorem pdX6_weightAt : yX6_weightAt.cls = RX6 ∧ yX6_weightAt.cls ≠ "java/lang/invoke/MethodHandle" ∧ yX6_weightAt.cls ≠ "java/lang/invoke/VarHandle" ∧ (parseMethodDescriptor yX6_weightAt.desc).map (fun d => d.parameters.length) = some 1 := by decide +kernel
theorem pdX7_init : yX7_init.cls = RX7 ∧ yX7_init.cls ≠ "java/lang/invoke/MethodHandle" ∧ yX7_init.cls ≠ "java/lang/invoke/VarHandle" ∧ (parseMethodDescriptor yX7_init.desc).map (fun d => d.parameters.length) = some 0 := by decide +kernel
theorem pdX7_come : yX7_come.cls = RX7 ∧ yX7_come.cls ≠ "java/lang/invoke/MethodHandle" ∧ yX7_come.cls ≠ "java/lang/invoke/VarHandle" ∧ (parseMethodDescriptor yX7_come.desc).map (fun d => d.parameters.length) = some 2 := by decide +kernel
theorem pdX7_move : yX7_move.cls = RX7 ∧ yX7_move.cls ≠ "java/lang/invoke/MethodHandle" ∧ yX7_move.cls ≠ "java/lang/invoke/VarHandle" ∧ (parseMethodDescriptor yX7_move.desc).map (fun d => d.parameters.length) = some 2 := by decide +kernel
theorem pdX7_petition : yX7_petition.cls = RX7 ∧ yX7_petition.cls ≠ "java/lang/invoke/MethodHandle" ∧ yX7_petition.cls ≠ "java/lang/invoke/VarHandle" ∧ (parseMethodDescriptor yX7_petition.desc).map (fun d => d.parameters.length) = some 4 := by decide +kernel
theorem pdX7_second : yX7_second.cls = RX7 ∧ yX7_second.cls ≠ "java/lang/invoke/MethodHandle" ∧ yX7_second.cls ≠ "java/lang/invoke/VarHandle" ∧ (parseMethodDescriptor yX7_second.desc).map (fun d => d.parameters.length) = some 2 := by decide +kernel
theorem pdX7_pass : yX7_pass.cls = RX7 ∧ yX7_pass.cls ≠ "java/lang/invoke/MethodHandle" ∧ yX7_pass.cls ≠ "java/lang/invoke/VarHandle" ∧ (parseMethodDescriptor yX7_pass.desc).map (fun d => d.parameters.length) = some 1 := by decide +kernel
theorem pdX7_set : yX7_set.cls = RX7 ∧ yX7_set.cls ≠ "java/lang/invoke/MethodHandle" ∧ yX7_set.cls ≠ "java/lang/invoke/VarHandle" ∧ (parseMethodDescriptor yX7_set.desc).map (fun d => d.parameters.length) = some 2 := by decide +kernel
theorem pdX7_type : yX7_type.cls = RX7 ∧ yX7_type.cls ≠ "java/lang/invoke/MethodHandle" ∧ yX7_type.cls ≠ "java/lang/invoke/VarHandle" ∧ (parseMethodDescriptor yX7_type.desc).map (fun d => d.parameters.length) = some 1 := by decide +kernel
theorem pdX7_clearText : yX7_clearText.cls = RX7 ∧ yX7_clearText.cls ≠ "java/lang/invoke/MethodHandle" ∧ yX7_clearText.cls ≠ "java/lang/invoke/VarHandle" ∧ (parseMethodDescriptor yX7_clearText.desc).map (fun d => d.parameters.length) = some 0 := by decide +kernel
theorem pdX7_perform : yX7_perform.cls = RX7 ∧ yX7_perform.cls ≠ "java/lang/invoke/MethodHandle" ∧ yX7_perform.cls ≠ "java/lang/invoke/VarHandle" ∧ (parseMethodDescriptor yX7_perform.desc).map (fun d => d.parameters.length) = some 0 := by decide +kernel
theorem pdX7_stopped : yX7_stopped.cls = RX7 ∧ yX7_stopped.cls ≠ "java/lang/invoke/MethodHandle" ∧ yX7_stopped.cls ≠ "java/lang/invoke/VarHandle" ∧ (parseMethodDescriptor yX7_stopped.desc).map (fun d => d.parameters.length) = some 1 := by decide +kernel
theorem pdX7_undo : yX7_undo.cls = RX7 ∧ yX7_undo.cls ≠ "java/lang/invoke/MethodHandle" ∧ yX7_undo.cls ≠ "java/lang/invoke/VarHandle" ∧ (parseMethodDescriptor yX7_undo.desc).map (fun d => d.parameters.length) = some 0 := by decide +kernel
theorem pdX7_keep : yX7_keep.cls = RX7 ∧ yX7_keep.cls ≠ "java/lang/invoke/MethodHandle" ∧ yX7_keep.cls ≠ "java/lang/invoke/VarHandle" ∧ (parseMethodDescriptor yX7_keep.desc).map (fun d => d.parameters.length) = some 0 := by decide +kernel
theorem pdX7_restore : yX7_restore.cls = RX7 ∧ yX7_restore.cls ≠ "java/lang/invoke/MethodHandle" ∧ yX7_restore.cls ≠ "java/lang/invoke/VarHandle" ∧ (parseMethodDescriptor yX7_restore.desc).map (fun d => d.parameters.length) = some 0 := by decide +kernel
theorem pdX7_drone : yX7_drone.cls = RX7 ∧ yX7_drone.cls ≠ "java/lang/invoke/MethodHandle" ∧ yX7_drone.cls ≠ "java/lang/invoke/VarHandle" ∧ (parseMethodDescriptor yX7_drone.desc).map (fun d => d.parameters.length) = some 2 := by decide +kernel
theorem pdX7_bylaw : yX7_bylaw.cls = RX7 ∧ yX7_bylaw.cls ≠ "java/lang/invoke/MethodHandle" ∧ yX7_bylaw.cls ≠ "java/lang/invoke/VarHandle" ∧ (parseMethodDescriptor yX7_bylaw.desc).map (fun d => d.parameters.length) = some 2 := by decide +kernel
theorem pdX7_petitionOf : yX7_petitionOf.cls = RX7 ∧ yX7_petitionOf.cls ≠ "java/lang/invoke/MethodHandle" ∧ yX7_petitionOf.cls ≠ "java/lang/invoke/VarHandle" ∧ (parseMethodDescriptor yX7_petitionOf.desc).map (fun d => d.parameters.length) = some 2 := by decide +kernel
theorem pdX7_heard : yX7_heard.cls = RX7 ∧ yX7_heard.cls ≠ "java/lang/invoke/MethodHandle" ∧ yX7_heard.cls ≠ "java/lang/invoke/VarHandle" ∧ (parseMethodDescriptor yX7_heard.desc).map (fun d => d.parameters.length) = some 1 := by decide +kernel
theorem pdX7_rule : yX7_rule.cls = RX7 ∧ yX7_rule.cls ≠ "java/lang/invoke/MethodHandle" ∧ yX7_rule.cls ≠ "java/lang/invoke/VarHandle" ∧ (parseMethodDescriptor yX7_rule.desc).map (fun d => d.parameters.length) = some 3 := by decide +kernel
theorem pdX7_reason : yX7_reason.cls = RX7 ∧ yX7_reason.cls ≠ "java/lang/invoke/MethodHandle" ∧ yX7_reason.cls ≠ "java/lang/invoke/VarHandle" ∧ (parseMethodDescriptor yX7_reason.desc).map (fun d => d.parameters.length) = some 1 := by decide +kernel
theorem pdX7_wouldPass : yX7_wouldPass.cls = RX7 ∧ yX7_wouldPass.cls ≠ "java/lang/invoke/MethodHandle" ∧ yX7_wouldPass.cls ≠ "java/lang/invoke/VarHandle" ∧ (parseMethodDescriptor yX7_wouldPass.desc).map (fun d => d.parameters.length) = some 0 := by decide +kernel
theorem pdX7_lacks : yX7_lacks.cls = RX7 ∧ yX7_lacks.cls ≠ "java/lang/invoke/MethodHandle" ∧ yX7_lacks.cls ≠ "java/lang/invoke/VarHandle" ∧ (parseMethodDescriptor yX7_lacks.desc).map (fun d => d.parameters.length) = some 1 := by decide +kernel
theorem pdX7_free : yX7_free.cls = RX7 ∧ yX7_free.cls ≠ "java/lang/invoke/MethodHandle" ∧ yX7_free.cls ≠ "java/lang/invoke/VarHandle" ∧ (parseMethodDescriptor yX7_free.desc).map (fun d => d.parameters.length) = some 0 := by decide +kernel
theorem pdX7_oldest : yX7_oldest.cls = RX7 ∧ yX7_oldest.cls ≠ "java/lang/invoke/MethodHandle" ∧ yX7_oldest.cls ≠ "java/lang/invoke/VarHandle" ∧ (parseMethodDescriptor yX7_oldest.desc).map (fun d => d.parameters.length) = some 2 := by decide +kernel
theorem pdX7_count : yX7_count.cls = RX7 ∧ yX7_count.cls ≠ "java/lang/invoke/MethodHandle" ∧ yX7_count.cls ≠ "java/lang/invoke/VarHandle" ∧ (parseMethodDescriptor yX7_count.desc).map (fun d => d.parameters.length) = some 1 := by decide +kernel
theorem pdX7_isComb : yX7_isComb.cls = RX7 ∧ yX7_isComb.cls ≠ "java/lang/invoke/MethodHandle" ∧ yX7_isComb.cls ≠ "java/lang/invoke/VarHandle" ∧ (parseMethodDescriptor yX7_isComb.desc).map (fun d => d.parameters.length) = some 1 := by decide +kernel
theorem pdX7_isPlace : yX7_isPlace.cls = RX7 ∧ yX7_isPlace.cls ≠ "java/lang/invoke/MethodHandle" ∧ yX7_isPlace.cls ≠ "java/lang/invoke/VarHandle" ∧ (parseMethodDescriptor yX7_isPlace.desc).map (fun d => d.parameters.length) = some 1 := by decide +kernel
theorem pdX7_isDoing : yX7_isDoing.cls = RX7 ∧ yX7_isDoing.cls ≠ "java/lang/invoke/MethodHandle" ∧ yX7_isDoing.cls ≠ "java/lang/invoke/VarHandle" ∧ (parseMethodDescriptor yX7_isDoing.desc).map (fun d => d.parameters.length) = some 1 := by decide +kernel
theorem pdX7_sum : yX7_sum.cls = RX7 ∧ yX7_sum.cls ≠ "java/lang/invoke/MethodHandle" ∧ yX7_sum.cls ≠ "java/lang/invoke/VarHandle" ∧ (parseMethodDescriptor yX7_sum.desc).map (fun d => d.parameters.length) = some 1 := by decide +kernel
theorem pdX7_recorded : yX7_recorded.cls = RX7 ∧ yX7_recorded.cls ≠ "java/lang/invoke/MethodHandle" ∧ yX7_recorded.cls ≠ "java/lang/invoke/VarHandle" ∧ (parseMethodDescriptor yX7_recorded.desc).map (fun d => d.parameters.length) = some 1 := by decide +kernel
theorem pdX7_doThing : yX7_doThing.cls = RX7 ∧ yX7_doThing.cls ≠ "java/lang/invoke/MethodHandle" ∧ yX7_doThing.cls ≠ "java/lang/invoke/VarHandle" ∧ (parseMethodDescriptor yX7_doThing.desc).map (fun d => d.parameters.length) = some 1 := by decide +kernel
theorem pdX8_init : yX8_init.cls = RX8 ∧ yX8_init.cls ≠ "java/lang/invoke/MethodHandle" ∧ yX8_init.cls ≠ "java/lang/invoke/VarHandle" ∧ (parseMethodDescriptor yX8_init.desc).map (fun d => d.parameters.length) = some 0 := by decide +kernel
theorem pdX8_in : yX8_in.cls = RX8 ∧ yX8_in.cls ≠ "java/lang/invoke/MethodHandle" ∧ yX8_in.cls ≠ "java/lang/invoke/VarHandle" ∧ (parseMethodDescriptor yX8_in.desc).map (fun d => d.parameters.length) = some 3 := by decide +kernel
theorem pdX8_flag : yX8_flag.cls = RX8 ∧ yX8_flag.cls ≠ "java/lang/invoke/MethodHandle" ∧ yX8_flag.cls ≠ "java/lang/invoke/VarHandle" ∧ (parseMethodDescriptor yX8_flag.desc).map (fun d => d.parameters.length) = some 1 := by decide +kernel
theorem pdX8_copies : yX8_copies.cls = RX8 ∧ yX8_copies.cls ≠ "java/lang/invoke/MethodHandle" ∧ yX8_copies.cls ≠ "java/lang/invoke/VarHandle" ∧ (parseMethodDescriptor yX8_copies.desc).map (fun d => d.parameters.length) = some 2 := by decide +kernel
theorem pdX8_records : yX8_records.cls = RX8 ∧ yX8_records.cls ≠ "java/lang/invoke/MethodHandle" ∧ yX8_records.cls ≠ "java/lang/invoke/VarHandle" ∧ (parseMethodDescriptor yX8_records.desc).map (fun d => d.parameters.length) = some 1 := by decide +kernel
theorem pdX8_droneAt : yX8_droneAt.cls = RX8 ∧ yX8_droneAt.cls ≠ "java/lang/invoke/MethodHandle" ∧ yX8_droneAt.cls ≠ "java/lang/invoke/VarHandle" ∧ (parseMethodDescriptor yX8_droneAt.desc).map (fun d => d.parameters.length) = some 2 := by decide +kernel
theorem pdX8_petitionAt : yX8_petitionAt.cls = RX8 ∧ yX8_petitionAt.cls ≠ "java/lang/invoke/MethodHandle" ∧ yX8_petitionAt.cls ≠ "java/lang/invoke/VarHandle" ∧ (parseMethodDescriptor yX8_petitionAt.desc).map (fun d => d.parameters.length) = some 2 := by decide +kernel
theorem pdX8_bylawAt : yX8_bylawAt.cls = RX8 ∧ yX8_bylawAt.cls ≠ "java/lang/invoke/MethodHandle" ∧ yX8_bylawAt.cls ≠ "java/lang/invoke/VarHandle" ∧ (parseMethodDescriptor yX8_bylawAt.desc).map (fun d => d.parameters.length) = some 3 := by decide +kernel
theorem pdX8_support : yX8_support.cls = RX8 ∧ yX8_support.cls ≠ "java/lang/invoke/MethodHandle" ∧ yX8_support.cls ≠ "java/lang/invoke/VarHandle" ∧ (parseMethodDescriptor yX8_support.desc).map (fun d => d.parameters.length) = some 2 := by decide +kernel
theorem pdX8_weightAt : yX8_weightAt.cls = RX8 ∧ yX8_weightAt.cls ≠ "java/lang/invoke/MethodHandle" ∧ yX8_weightAt.cls ≠ "java/lang/invoke/VarHandle" ∧ (parseMethodDescriptor yX8_weightAt.desc).map (fun d => d.parameters.length) = some 2 := by decide +kernel
theorem pdX8_refusedWith : yX8_refusedWith.cls = RX8 ∧ yX8_refusedWith.cls ≠ "java/lang/invoke/MethodHandle" ∧ yX8_refusedWith.cls ≠ "java/lang/invoke/VarHandle" ∧ (parseMethodDescriptor yX8_refusedWith.desc).map (fun d => d.parameters.length) = some 4 := by decide +kernel
theorem pdX8_refusal : yX8_refusal.cls = RX8 ∧ yX8_refusal.cls ≠ "java/lang/invoke/MethodHandle" ∧ yX8_refusal.cls ≠ "java/lang/invoke/VarHandle" ∧ (parseMethodDescriptor yX8_refusal.desc).map (fun d => d.parameters.length) = some 3 := by decide +kernel
theorem pdX8_passes : yX8_passes.cls = RX8 ∧ yX8_passes.cls ≠ "java/lang/invoke/MethodHandle" ∧ yX8_passes.cls ≠ "java/lang/invoke/VarHandle" ∧ (parseMethodDescriptor yX8_passes.desc).map (fun d => d.parameters.length) = some 3 := by decide +kernel
theorem pdX8_sorts : yX8_sorts.cls = RX8 ∧ yX8_sorts.cls ≠ "java/lang/invoke/MethodHandle" ∧ yX8_sorts.cls ≠ "java/lang/invoke/VarHandle" ∧ (parseMethodDescriptor yX8_sorts.desc).map (fun d => d.parameters.length) = some 1 := by decide +kernel
theorem pdX8_hears : yX8_hears.cls = RX8 ∧ yX8_hears.cls ≠ "java/lang/invoke/MethodHandle" ∧ yX8_hears.cls ≠ "java/lang/invoke/VarHandle" ∧ (parseMethodDescriptor yX8_hears.desc).map (fun d => d.parameters.length) = some 1 := by decide +kernel
theorem pdX8_day : yX8_day.cls = RX8 ∧ yX8_day.cls ≠ "java/lang/invoke/MethodHandle" ∧ yX8_day.cls ≠ "java/lang/invoke/VarHandle" ∧ (parseMethodDescriptor yX8_day.desc).map (fun d => d.parameters.length) = some 1 := by decide +kernel
theorem pdX8_isDrone : yX8_isDrone.cls = RX8 ∧ yX8_isDrone.cls ≠ "java/lang/invoke/MethodHandle" ∧ yX8_isDrone.cls ≠ "java/lang/invoke/VarHandle" ∧ (parseMethodDescriptor yX8_isDrone.desc).map (fun d => d.parameters.length) = some 1 := by decide +kernel
theorem pdX8_isPetition : yX8_isPetition.cls = RX8 ∧ yX8_isPetition.cls ≠ "java/lang/invoke/MethodHandle" ∧ yX8_isPetition.cls ≠ "java/lang/invoke/VarHandle" ∧ (parseMethodDescriptor yX8_isPetition.desc).map (fun d => d.parameters.length) = some 1 := by decide +kernel
theorem pdX8_isDoing : yX8_isDoing.cls = RX8 ∧ yX8_isDoing.cls ≠ "java/lang/invoke/MethodHandle" ∧ yX8_isDoing.cls ≠ "java/lang/invoke/VarHandle" ∧ (parseMethodDescriptor yX8_isDoing.desc).map (fun d => d.parameters.length) = some 1 := by decide +kernel
theorem pdX8_isComb : yX8_isComb.cls = RX8 ∧ yX8_isComb.cls ≠ "java/lang/invoke/MethodHandle" ∧ yX8_isComb.cls ≠ "java/lang/invoke/VarHandle" ∧ (parseMethodDescriptor yX8_isComb.desc).map (fun d => d.parameters.length) = some 1 := by decide +kernel
theorem pdX8_comes : yX8_comes.cls = RX8 ∧ yX8_comes.cls ≠ "java/lang/invoke/MethodHandle" ∧ yX8_comes.cls ≠ "java/lang/invoke/VarHandle" ∧ (parseMethodDescriptor yX8_comes.desc).map (fun d => d.parameters.length) = some 2 := by decide +kernel
theorem pdX8_moves : yX8_moves.cls = RX8 ∧ yX8_moves.cls ≠ "java/lang/invoke/MethodHandle" ∧ yX8_moves.cls ≠ "java/lang/invoke/VarHandle" ∧ (parseMethodDescriptor yX8_moves.desc).map (fun d => d.parameters.length) = some 2 := by decide +kernel
theorem pdX8_petitions : yX8_petitions.cls = RX8 ∧ yX8_petitions.cls ≠ "java/lang/invoke/MethodHandle" ∧ yX8_petitions.cls ≠ "java/lang/invoke/VarHandle" ∧ (parseMethodDescriptor yX8_petitions.desc).map (fun d => d.parameters.length) = some 4 := by decide +kernel
theorem pdX8_seconds : yX8_seconds.cls = RX8 ∧ yX8_seconds.cls ≠ "java/lang/invoke/MethodHandle" ∧ yX8_seconds.cls ≠ "java/lang/invoke/VarHandle" ∧ (parseMethodDescriptor yX8_seconds.desc).map (fun d => d.parameters.length) = some 2 := by decide +kernel
theorem pdX8_ends : yX8_ends.cls = RX8 ∧ yX8_ends.cls ≠ "java/lang/invoke/MethodHandle" ∧ yX8_ends.cls ≠ "java/lang/invoke/VarHandle" ∧ (parseMethodDescriptor yX8_ends.desc).map (fun d => d.parameters.length) = some 1 := by decide +kernel
theorem pdX8_sets : yX8_sets.cls = RX8 ∧ yX8_sets.cls ≠ "java/lang/invoke/MethodHandle" ∧ yX8_sets.cls ≠ "java/lang/invoke/VarHandle" ∧ (parseMethodDescriptor yX8_sets.desc).map (fun d => d.parameters.length) = some 2 := by decide +kernel
theorem pdX8_done : yX8_done.cls = RX8 ∧ yX8_done.cls ≠ "java/lang/invoke/MethodHandle" ∧ yX8_done.cls ≠ "java/lang/invoke/VarHandle" ∧ (parseMethodDescriptor yX8_done.desc).map (fun d => d.parameters.length) = some 1 := by decide +kernel
theorem pdX8_come : yX8_come.cls = RX8 ∧ yX8_come.cls ≠ "java/lang/invoke/MethodHandle" ∧ yX8_come.cls ≠ "java/lang/invoke/VarHandle" ∧ (parseMethodDescriptor yX8_come.desc).map (fun d => d.parameters.length) = some 2 := by decide +kernel
theorem pdX8_move : yX8_move.cls = RX8 ∧ yX8_move.cls ≠ "java/lang/invoke/MethodHandle" ∧ yX8_move.cls ≠ "java/lang/invoke/VarHandle" ∧ (parseMethodDescriptor yX8_move.desc).map (fun d => d.parameters.length) = some 2 := by decide +kernel
theorem pdX8_petition : yX8_petition.cls = RX8 ∧ yX8_petition.cls ≠ "java/lang/invoke/MethodHandle" ∧ yX8_petition.cls ≠ "java/lang/invoke/VarHandle" ∧ (parseMethodDescriptor yX8_petition.desc).map (fun d => d.parameters.length) = some 4 := by decide +kernel
theorem pdX8_second : yX8_second.cls = RX8 ∧ yX8_second.cls ≠ "java/lang/invoke/MethodHandle" ∧ yX8_second.cls ≠ "java/lang/invoke/VarHandle" ∧ (parseMethodDescriptor yX8_second.desc).map (fun d => d.parameters.length) = some 2 := by decide +kernel
theorem pdX8_pass : yX8_pass.cls = RX8 ∧ yX8_pass.cls ≠ "java/lang/invoke/MethodHandle" ∧ yX8_pass.cls ≠ "java/lang/invoke/VarHandle" ∧ (parseMethodDescriptor yX8_pass.desc).map (fun d => d.parameters.length) = some 1 := by decide +kernel
theorem pdX8_set : yX8_set.cls = RX8 ∧ yX8_set.cls ≠ "java/lang/invoke/MethodHandle" ∧ yX8_set.cls ≠ "java/lang/invoke/VarHandle" ∧ (parseMethodDescriptor yX8_set.desc).map (fun d => d.parameters.length) = some 2 := by decide +kernel
theorem pdX8_type : yX8_type.cls = RX8 ∧ yX8_type.cls ≠ "java/lang/invoke/MethodHandle" ∧ yX8_type.cls ≠ "java/lang/invoke/VarHandle" ∧ (parseMethodDescriptor yX8_type.desc).map (fun d => d.parameters.length) = some 1 := by decide +kernel
theorem pdX8_clearText : yX8_clearText.cls = RX8 ∧ yX8_clearText.cls ≠ "java/lang/invoke/MethodHandle" ∧ yX8_clearText.cls ≠ "java/lang/invoke/VarHandle" ∧ (parseMethodDescriptor yX8_clearText.desc).map (fun d => d.parameters.length) = some 0 := by decide +kernel
theorem pdX8_isHere : yX8_isHere.cls = RX8 ∧ yX8_isHere.cls ≠ "java/lang/invoke/MethodHandle" ∧ yX8_isHere.cls ≠ "java/lang/invoke/VarHandle" ∧ (parseMethodDescriptor yX8_isHere.desc).map (fun d => d.parameters.length) = some 2 := by decide +kernel
theorem pdX8_takes : yX8_takes.cls = RX8 ∧ yX8_takes.cls ≠ "java/lang/invoke/MethodHandle" ∧ yX8_takes.cls ≠ "java/lang/invoke/VarHandle" ∧ (parseMethodDescriptor yX8_takes.desc).map (fun d => d.parameters.length) = some 1 := by decide +kernel
theorem pdX8_number : yX8_number.cls = RX8 ∧ yX8_number.cls ≠ "java/lang/invoke/MethodHandle" ∧ yX8_number.cls ≠ "java/lang/invoke/VarHandle" ∧ (parseMethodDescriptor yX8_number.desc).map (fun d => d.parameters.length) = some 2 := by decide +kernel
theorem pdX8_readsPetition : yX8_readsPetition.cls = RX8 ∧ yX8_readsPetition.cls ≠ "java/lang/invoke/MethodHandle" ∧ yX8_readsPetition.cls ≠ "java/lang/invoke/VarHandle" ∧ (parseMethodDescriptor yX8_readsPetition.desc).map (fun d => d.parameters.length) = some 0 := by decide +kernel
theorem pdX8_readsThing : yX8_readsThing.cls = RX8 ∧ yX8_readsThing.cls ≠ "java/lang/invoke/MethodHandle" ∧ yX8_readsThing.cls ≠ "java/lang/invoke/VarHandle" ∧ (parseMethodDescriptor yX8_readsThing.desc).map (fun d => d.parameters.length) = some 0 := by decide +kernel
theorem pdX8_fault : yX8_fault.cls = RX8 ∧ yX8_fault.cls ≠ "java/lang/invoke/MethodHandle" ∧ yX8_fault.cls ≠ "java/lang/invoke/VarHandle" ∧ (parseMethodDescriptor yX8_fault.desc).map (fun d => d.parameters.length) = some 0 := by decide +kernel
theorem pdX8_does : yX8_does.cls = RX8 ∧ yX8_does.cls ≠ "java/lang/invoke/MethodHandle" ∧ yX8_does.cls ≠ "java/lang/invoke/VarHandle" ∧ (parseMethodDescriptor yX8_does.desc).map (fun d => d.parameters.length) = some 0 := by decide +kernel
theorem pdX8_perform : yX8_perform.cls = RX8 ∧ yX8_perform.cls ≠ "java/lang/invoke/MethodHandle" ∧ yX8_perform.cls ≠ "java/lang/invoke/VarHandle" ∧ (parseMethodDescriptor yX8_perform.desc).map (fun d => d.parameters.length) = some 0 := by decide +kernel
theorem pdX8_stopped : yX8_stopped.cls = RX8 ∧ yX8_stopped.cls ≠ "java/lang/invoke/MethodHandle" ∧ yX8_stopped.cls ≠ "java/lang/invoke/VarHandle" ∧ (parseMethodDescriptor yX8_stopped.desc).map (fun d => d.parameters.length) = some 1 := by decide +kernel
theorem pdX8_undo : yX8_undo.cls = RX8 ∧ yX8_undo.cls ≠ "java/lang/invoke/MethodHandle" ∧ yX8_undo.cls ≠ "java/lang/invoke/VarHandle" ∧ (parseMethodDescriptor yX8_undo.desc).map (fun d => d.parameters.length) = some 0 := by decide +kernel
theorem pdX8_bylaws : yX8_bylaws.cls = RX8 ∧ yX8_bylaws.cls ≠ "java/lang/invoke/MethodHandle" ∧ yX8_bylaws.cls ≠ "java/lang/invoke/VarHandle" ∧ (parseMethodDescriptor yX8_bylaws.desc).map (fun d => d.parameters.length) = some 1 := by decide +kernel
theorem pdX8_keep : yX8_keep.cls = RX8 ∧ yX8_keep.cls ≠ "java/lang/invoke/MethodHandle" ∧ yX8_keep.cls ≠ "java/lang/invoke/VarHandle" ∧ (parseMethodDescriptor yX8_keep.desc).map (fun d => d.parameters.length) = some 0 := by decide +kernel
theorem pdX8_restore : yX8_restore.cls = RX8 ∧ yX8_restore.cls ≠ "java/lang/invoke/MethodHandle" ∧ yX8_restore.cls ≠ "java/lang/invoke/VarHandle" ∧ (parseMethodDescriptor yX8_restore.desc).map (fun d => d.parameters.length) = some 0 := by decide +kernel
theorem pdX8_secondedBy : yX8_secondedBy.cls = RX8 ∧ yX8_secondedBy.cls ≠ "java/lang/invoke/MethodHandle" ∧ yX8_secondedBy.cls ≠ "java/lang/invoke/VarHandle" ∧ (parseMethodDescriptor yX8_secondedBy.desc).map (fun d => d.parameters.length) = some 1 := by decide +kernel
theorem pdX8_drone : yX8_drone.cls = RX8 ∧ yX8_drone.cls ≠ "java/lang/invoke/MethodHandle" ∧ yX8_drone.cls ≠ "java/lang/invoke/VarHandle" ∧ (parseMethodDescriptor yX8_drone.desc).map (fun d => d.parameters.length) = some 2 := by decide +kernel
theorem pdX8_ranked : yX8_ranked.cls = RX8 ∧ yX8_ranked.cls ≠ "java/lang/invoke/MethodHandle" ∧ yX8_ranked.cls ≠ "java/lang/invoke/VarHandle" ∧ (parseMethodDescriptor yX8_ranked.desc).map (fun d => d.parameters.length) = some 1 := by decide +kernel
theorem pdX8_rankOf : yX8_rankOf.cls = RX8 ∧ yX8_rankOf.cls ≠ "java/lang/invoke/MethodHandle" ∧ yX8_rankOf.cls ≠ "java/lang/invoke/VarHandle" ∧ (parseMethodDescriptor yX8_rankOf.desc).map (fun d => d.parameters.length) = some 1 := by decide +kernel
theorem pdX8_bylaw : yX8_bylaw.cls = RX8 ∧ yX8_bylaw.cls ≠ "java/lang/invoke/MethodHandle" ∧ yX8_bylaw.cls ≠ "java/lang/invoke/VarHandle" ∧ (parseMethodDescriptor yX8_bylaw.desc).map (fun d => d.parameters.length) = some 2 := by decide +kernel
theorem pdX8_petitionOf : yX8_petitionOf.cls = RX8 ∧ yX8_petitionOf.cls ≠ "java/lang/invoke/MethodHandle" ∧ yX8_petitionOf.cls ≠ "java/lang/invoke/VarHandle" ∧ (parseMethodDescriptor yX8_petitionOf.desc).map (fun d => d.parameters.length) = some 2 := by decide +kernel
theorem pdX8_heard : yX8_heard.cls = RX8 ∧ yX8_heard.cls ≠ "java/lang/invoke/MethodHandle" ∧ yX8_heard.cls ≠ "java/lang/invoke/VarHandle" ∧ (parseMethodDescriptor yX8_heard.desc).map (fun d => d.parameters.length) = some 1 := by decide +kernel
theorem pdX8_ruling : yX8_ruling.cls = RX8 ∧ yX8_ruling.cls ≠ "java/lang/invoke/MethodHandle" ∧ yX8_ruling.cls ≠ "java/lang/invoke/VarHandle" ∧ (parseMethodDescriptor yX8_ruling.desc).map (fun d => d.parameters.length) = some 2 := by decide +kernel
theorem pdX8_isAllowed : yX8_isAllowed.cls = RX8 ∧ yX8_isAllowed.cls ≠ "java/lang/invoke/MethodHandle" ∧ yX8_isAllowed.cls ≠ "java/lang/invoke/VarHandle" ∧ (parseMethodDescriptor yX8_isAllowed.desc).map (fun d => d.parameters.length) = some 2 := by decide +kernel
theorem pdX8_rule : yX8_rule.cls = RX8 ∧ yX8_rule.cls ≠ "java/lang/invoke/MethodHandle" ∧ yX8_rule.cls ≠ "java/lang/invoke/VarHandle" ∧ (parseMethodDescriptor yX8_rule.desc).map (fun d => d.parameters.length) = some 3 := by decide +kernel
theorem pdX8_tries : yX8_tries.cls = RX8 ∧ yX8_tries.cls ≠ "java/lang/invoke/MethodHandle" ∧ yX8_tries.cls ≠ "java/lang/invoke/VarHandle" ∧ (parseMethodDescriptor yX8_tries.desc).map (fun d => d.parameters.length) = some 0 := by decide +kernel
theorem pdX8_reason : yX8_reason.cls = RX8 ∧ yX8_reason.cls ≠ "java/lang/invoke/MethodHandle" ∧ yX8_reason.cls ≠ "java/lang/invoke/VarHandle" ∧ (parseMethodDescriptor yX8_reason.desc).map (fun d => d.parameters.length) = some 1 := by decide +kernel
theorem pdX8_wouldPass : yX8_wouldPass.cls = RX8 ∧ yX8_wouldPass.cls ≠ "java/lang/invoke/MethodHandle" ∧ yX8_wouldPass.cls ≠ "java/lang/invoke/VarHandle" ∧ (parseMethodDescriptor yX8_wouldPass.desc).map (fun d => d.parameters.length) = some 0 := by decide +kernel
theorem pdX8_lacks : yX8_lacks.cls = RX8 ∧ yX8_lacks.cls ≠ "java/lang/invoke/MethodHandle" ∧ yX8_lacks.cls ≠ "java/lang/invoke/VarHandle" ∧ (parseMethodDescriptor yX8_lacks.desc).map (fun d => d.parameters.length) = some 1 := by decide +kernel
theorem pdX8_free : yX8_free.cls = RX8 ∧ yX8_free.cls ≠ "java/lang/invoke/MethodHandle" ∧ yX8_free.cls ≠ "java/lang/invoke/VarHandle" ∧ (parseMethodDescriptor yX8_free.desc).map (fun d => d.parameters.length) = some 0 := by decide +kernel
theorem pdX8_oldestAt : yX8_oldestAt.cls = RX8 ∧ yX8_oldestAt.cls ≠ "java/lang/invoke/MethodHandle" ∧ yX8_oldestAt.cls ≠ "java/lang/invoke/VarHandle" ∧ (parseMethodDescriptor yX8_oldestAt.desc).map (fun d => d.parameters.length) = some 1 := by decide +kernel
theorem pdX8_oldest : yX8_oldest.cls = RX8 ∧ yX8_oldest.cls ≠ "java/lang/invoke/MethodHandle" ∧ yX8_oldest.cls ≠ "java/lang/invoke/VarHandle" ∧ (parseMethodDescriptor yX8_oldest.desc).map (fun d => d.parameters.length) = some 2 := by decide +kernel
theorem pdX8_forbiddenAtCombs : yX8_forbiddenAtCombs.cls = RX8 ∧ yX8_forbiddenAtCombs.cls ≠ "java/lang/invoke/MethodHandle" ∧ yX8_forbiddenAtCombs.cls ≠ "java/lang/invoke/VarHandle" ∧ (parseMethodDescriptor yX8_forbiddenAtCombs.desc).map (fun d => d.parameters.length) = some 0 := by decide +kernel
theorem pdX8_count : yX8_count.cls = RX8 ∧ yX8_count.cls ≠ "java/lang/invoke/MethodHandle" ∧ yX8_count.cls ≠ "java/lang/invoke/VarHandle" ∧ (parseMethodDescriptor yX8_count.desc).map (fun d => d.parameters.length) = some 1 := by decide +kernel
end
section
/-! truth values as ints; numbers in a range; small facts -/
noncomputable def b2 (P : Prop) : Int32 := @ite _ P (Classical.propDecidable P) 1 0
theorem b2_t {P : Prop} (h : P) : b2 P = 1 := by unfold b2; exact if_pos h
theorem b2_f {P : Prop} (h : ¬ P) : b2 P = 0 := by unfold b2; exact if_neg h
theorem b2_z {P : Prop} : b2 P = 0 ↔ ¬ P := by
  constructor
  · intro h hp
    rw [b2_t hp] at h
    exact absurd h (by decide)
  · exact b2_f
theorem b2_o {P : Prop} : b2 P = 1 ↔ P := by
  constructor
  · intro h
    apply Classical.byContradiction
    intro hp
    rw [b2_f hp] at h
    exact absurd h (by decide)
  · exact b2_t
theorem b2_c {P P' : Prop} (h : P ↔ P') : b2 P = b2 P' := by rw [propext h]
theorem b2_n (P : Prop) : narrow .boolean (.int (b2 P)) = .int (b2 P) := by
  rcases Classical.em P with h | h
  · rw [b2_t h]; decide
  · rw [b2_f h]; decide
theorem b2_01 (P : Prop) : b2 P = 0 ∨ b2 P = 1 := (Classical.em P).elim (fun h => Or.inr (b2_t h)) (fun h => Or.inl (b2_f h))
/-- the number is a natural one between two others -/
def inN (x : Int32) (a b : Nat) : Prop := ∃ d : Nat, a ≤ d ∧ d ≤ b ∧ x = nI d
def isN (x : Int32) (n : Nat) : Prop := ∃ d : Nat, d < n ∧ x = nI d
theorem i32_le {a b : Int32} : a ≤ b ↔ a.toInt ≤ b.toInt := Int32.le_iff_toInt_le
theorem i32_lt {a b : Int32} : a < b ↔ a.toInt < b.toInt := Int32.lt_iff_toInt_lt
theorem i32_of {x : Int32} {n : Nat} (h : x.toInt = n) (hn : n < 2 ^ 31) : x = nI n := Int32.toInt_inj.mp (by rw [h, nI_toInt hn])
theorem inN_iff {x : Int32} {a b : Nat} (ha : a < 2 ^ 31) (hb : b < 2 ^ 31) : (nI a ≤ x ∧ x ≤ nI b) ↔ inN x a b := by
  constructor
  · rintro ⟨h1, h2⟩
    rw [i32_le, nI_toInt ha] at h1
    rw [i32_le, nI_toInt hb] at h2
    exact ⟨x.toInt.toNat, by omega, by omega, i32_of (by omega) (by omega)⟩
  · rintro ⟨d, h1, h2, rfl⟩
    exact ⟨(nI_leI ha (by omega)).mpr h1, (nI_leI (by omega) hb).mpr h2⟩
theorem isN_in {x : Int32} {n : Nat} (h0 : 0 < n) : inN x 0 (n - 1) ↔ isN x n := ⟨fun ⟨d, _, h, e⟩ => ⟨d, by omega, e⟩, fun ⟨d, h, e⟩ => ⟨d, Nat.zero_le _, by omega, e⟩⟩
theorem isN_iff {x : Int32} {n : Nat} (hn : n < 2 ^ 30) : (nI 0 ≤ x ∧ x ≤ nI n - nI 1) ↔ isN x n := by
  have e : (nI n - nI 1).toInt = (n : Int) - 1 := pk_sub_toInt hn (by decide)
  constructor
  · rintro ⟨h1, h2⟩
    rw [i32_le, nI_toInt (by decide)] at h1
    rw [i32_le, e] at h2
    exact ⟨x.toInt.toNat, by omega, i32_of (by omega) (by omega)⟩
  · rintro ⟨d, h1, rfl⟩
    refine ⟨(nI_leI (by decide) (by omega)).mpr (Nat.zero_le _), ?_⟩
    rw [i32_le, e, nI_toInt (by omega)]
    omega
theorem isN_nI {d n : Nat} (hd : d < 2 ^ 31) (hn : n ≤ 2 ^ 31) : isN (nI d) n ↔ d < n := by
  constructor
  · rintro ⟨j, h1, h2⟩
    rw [nI_eq hd (by omega)] at h2
    omega
  · exact fun h => ⟨d, h, rfl⟩
theorem upd_s (f : Nat → Int32) (k : Nat) (v : Int32) : upd f k v k = v := pk_us
theorem upd_n {f : Nat → Int32} {k j : Nat} {v : Int32} (h : j ≠ k) : upd f k v j = f j := pk_un h
theorem u1_211 (G : GG) (g : Nat → Int32) : u1 G 211 g 211 = g := u1_s G 211 g
end
section
/-! THE REFERENCE'S STATE: a row r of 612 ints; what its reading methods answer -/
def kn (r : Nat → Int32) : Nat := tn (r 5)
def mn (r : Nat → Int32) : Nat := tn (r 6)
def on (r : Nat → Int32) : Nat := tn (r 11)
def pd (r : Nat → Int32) (q : Nat) : Nat := tn (r (5 * q + 84))
def pc (r : Nat → Int32) (q : Nat) : Nat := tn (r (5 * q + 85))
def pg (r : Nat → Int32) (q : Nat) : Nat := tn (r (5 * q + 86))
def pk (r : Nat → Int32) (q : Nat) : Nat := tn (r (5 * q + 87))
def dc (r : Nat → Int32) (d : Nat) : Nat := tn (r (6 * d + 12))
def WR (r : Nat → Int32) : Prop :=
  (r 5 = nI (kn r) ∧ kn r ≤ 12) ∧ (r 6 = nI (mn r) ∧ mn r ≤ 12) ∧ (r 11 = nI (on r) ∧ on r ≤ 12) ∧
  (∀ q, q < mn r → r (5 * q + 84) = nI (pd r q) ∧ pd r q < kn r ∧ r (5 * q + 85) = nI (pc r q) ∧ pc r q ≤ 6 ∧ r (5 * q + 86) = nI (pg r q) ∧ pg r q < 20 ∧ r (5 * q + 87) = nI (pk r q) ∧ pk r q ≤ 2) ∧
  (∀ d, d < kn r → r (6 * d + 12) = nI (dc r d) ∧ dc r d < 6)
def supp (r : Nat → Int32) (q : Nat) : Int32 := itr (fun d a => a + ((r (5 * q + 88) >>> (nI d &&& 31)) &&& nI 1) * r (6 * d + 13)) (r (6 * (pd r q) + 13)) (kn r)
def wgt (r : Nat → Int32) (x : Int32) : Int32 := itr (fun d a => a + (if x = nI 6 ∨ r (6 * d + 12) = x then r (6 * d + 13) else nI 0)) (nI 0) (kn r)
def refw (r : Nat → Int32) (x g k : Int32) : Int32 := itr (fun i a => if (r (4 * i + 144) = x ∧ r (4 * i + 145) = g ∧ r (4 * i + 146) = k) ∧ a < r (4 * i + 147) then r (4 * i + 147) else a) (-5) (on r)
/-- why a petition for place x about g, of kind k, with support v is refused; own and hive: where the bylaws lie -/
def refu (r : Nat → Int32) (q : Nat) (v : Int32) : Int32 :=
  if v < r 0 then nI 1
  else if v ≤ refw r (nI (pc r q)) (nI (pg r q)) (nI (pk r q)) then nI 2
  else if pc r q ≠ 6 ∧ pk r q ≠ 2 ∧ r (3 * (pg r q) + 552) ≠ (-5) ∧ r (3 * (pg r q) + 552) ≠ nI (pk r q) ∧ v < r (3 * (pg r q) + 553) then nI 3
  else if (pk r q = 2 ∧ r (60 * (pc r q) + 3 * (pg r q) + 192) = (-5)) ∨ (pk r q ≠ 2 ∧ r (60 * (pc r q) + 3 * (pg r q) + 192) = nI (pk r q) ∧ v ≤ r (60 * (pc r q) + 3 * (pg r q) + 193)) then nI 4
  else if pk r q = 2 ∧ nI 2 * v ≤ wgt r (nI (pc r q)) then nI 5 else nI 0
set_option maxHeartbeats 4000000 in
set_option maxRecDepth 100000 in
theorem c_X8_in (l : Launch) (J : JJ) (z : Nat) (ad : Nat → Nat) (G : GG) (v lo hi : Int32) : MI l J z ad yX8_in cX8_in 3 .boolean 0 [.int v, .int lo, .int hi] G (fun ans uG => ans = b2 (lo ≤ v ∧ v ≤ hi) ∧ uG = G) := by
  refine MZ.go (by decide) (Nat.le_of_ble_eq_true rfl) ?_
  intro pr e s m args below meth c ls Q X h hl hret
  have hx := X.1
  have hb := X.2.1
  have hown := X.2.2.2.1
  have hts := X.2.2.2.2
  have hl : lv_has ls 3 [(0, .int v), (1, .int lo), (2, .int hi)] := hl
  refine lv_iload_n hx hb dX8_in_0 rfl (lv_at hl 0 rfl) ?_
  refine lv_iload_n hx hb dX8_in_1 rfl (lv_at hl 1 rfl) ?_
  refine lv_icmp_lt (tgt := 14) hx hb dX8_in_2 (by decide) (fun c_2 => ?_) (fun c_2 => ?_)
  · refine lv_iconst (v := nI 0) hx hb dX8_in_14 (by decide) ?_
    exact hret (nI 0) G _ _ 15 _ (⟨(b2_f (fun q => Int32.not_lt.mpr q.1 c_2)).symm, rfl⟩) h rfl dX8_in_15
  · refine lv_iload_n hx hb dX8_in_5 rfl (lv_at hl 0 rfl) ?_
    refine lv_iload_n hx hb dX8_in_6 rfl (lv_at hl 2 rfl) ?_
    refine lv_icmp_gt (tgt := 14) hx hb dX8_in_7 (by decide) (fun c_7 => ?_) (fun c_7 => ?_)
    · refine lv_iconst (v := nI 0) hx hb dX8_in_14 (by decide) ?_
      exact hret (nI 0) G _ _ 15 _ (⟨(b2_f (fun q => Int32.not_lt.mpr q.2 c_7)).symm, rfl⟩) h rfl dX8_in_15
    · refine lv_iconst (v := nI 1) hx hb dX8_in_10 (by decide) ?_
      refine lv_goto (tgt := 15) hx hb dX8_in_11 (by decide) ?_
      exact hret (nI 1) G _ _ 15 _ (⟨(b2_t ⟨Int32.not_lt.mp c_2, Int32.not_lt.mp c_7⟩).symm, rfl⟩) h rfl dX8_in_15
set_option maxHeartbeats 4000000 in
set_option maxRecDepth 100000 in
theorem c_X8_flag (l : Launch) (J : JJ) (z : Nat) (ad : Nat → Nat) (G : GG) (P : Prop) : MI l J z ad yX8_flag cX8_flag 1 .int 0 [.int (b2 P)] G (fun ans uG => ans = b2 P ∧ uG = G) := by
  refine MI.go (by decide) (Nat.le_of_ble_eq_true rfl) ?_
  intro pr e s m args below meth c ls Q X h hl hret
  have hx := X.1
  have hb := X.2.1
  have hown := X.2.2.2.1
  have hts := X.2.2.2.2
  have hl : lv_has ls 1 [(0, .int (b2 P))] := hl
  refine lv_iload_n hx hb dX8_flag_0 rfl (lv_at hl 0 rfl) ?_
  refine lv_if_eq (tgt := 8) hx hb dX8_flag_1 (by decide) (fun c_1 => ?_) (fun c_1 => ?_)
  · rw [b2_z] at c_1
    refine lv_iconst (v := nI 0) hx hb dX8_flag_8 (by decide) ?_
    exact hret (nI 0) G _ _ 9 _ (⟨(b2_f c_1).symm, rfl⟩) h dX8_flag_9
  · rw [b2_z] at c_1
    refine lv_iconst (v := nI 1) hx hb dX8_flag_4 (by decide) ?_
    refine lv_goto (tgt := 9) hx hb dX8_flag_5 (by decide) ?_
    exact hret (nI 1) G _ _ 9 _ (⟨(b2_t (Classical.not_not.mp c_1)).symm, rfl⟩) h dX8_flag_9
set_option maxHeartbeats 4000000 in
set_option maxRecDepth 100000 in
theorem c_X8_flag0 (l : Launch) (J : JJ) (z : Nat) (ad : Nat → Nat) (G : GG)  : MI l J z ad yX8_flag cX8_flag 1 .int 0 [.int (nI 0)] G (fun ans uG => ans = nI 0 ∧ uG = G) := by
  refine MI.go (by decide) (Nat.le_of_ble_eq_true rfl) ?_
  intro pr e s m args below meth c ls Q X h hl hret
  have hx := X.1
  have hb := X.2.1
  have hown := X.2.2.2.1
  have hts := X.2.2.2.2
  have hl : lv_has ls 1 [(0, .int (nI 0))] := hl
  refine lv_iload_n hx hb dX8_flag_0 rfl (lv_at hl 0 rfl) ?_
  refine lv_if_eq (tgt := 8) hx hb dX8_flag_1 (by decide) (fun c_1 => ?_) (fun c_1 => absurd (by decide) c_1)
  refine lv_iconst (v := nI 0) hx hb dX8_flag_8 (by decide) ?_
  exact hret (nI 0) G _ _ 9 _ (⟨rfl, rfl⟩) h dX8_flag_9
set_option maxHeartbeats 4000000 in
set_option maxRecDepth 100000 in
theorem c_X8_flag1 (l : Launch) (J : JJ) (z : Nat) (ad : Nat → Nat) (G : GG)  : MI l J z ad yX8_flag cX8_flag 1 .int 0 [.int (nI 1)] G (fun ans uG => ans = nI 1 ∧ uG = G) := by
  refine MI.go (by decide) (Nat.le_of_ble_eq_true rfl) ?_
  intro pr e s m args below meth c ls Q X h hl hret
  have hx := X.1
  have hb := X.2.1
  have hown := X.2.2.2.1
  have hts := X.2.2.2.2
  have hl : lv_has ls 1 [(0, .int (nI 1))] := hl
  refine lv_iload_n hx hb dX8_flag_0 rfl (lv_at hl 0 rfl) ?_
  refine lv_if_eq (tgt := 8) hx hb dX8_flag_1 (by decide) (fun c_1 => absurd c_1 (by decide)) (fun c_1 => ?_)
  refine lv_iconst (v := nI 1) hx hb dX8_flag_4 (by decide) ?_
  refine lv_goto (tgt := 9) hx hb dX8_flag_5 (by decide) ?_
  exact hret (nI 1) G _ _ 9 _ (⟨rfl, rfl⟩) h dX8_flag_9
set_option maxHeartbeats 4000000 in
set_option maxRecDepth 100000 in
theorem c_X8_droneAt (l : Launch) (J : JJ) (z : Nat) (ad : Nat → Nat) (G : GG) (B q : Nat) : MI l J z ad yX8_droneAt cX8_droneAt 2 .int 0 [.int (nI B), .int (nI q)] G (fun ans uG => ans = nI (B + 6 * q + 12) ∧ uG = G) := by
  refine MI.go (by decide) (Nat.le_of_ble_eq_true rfl) ?_
  intro pr e s m args below meth c ls Q X h hl hret
  have hx := X.1
  have hb := X.2.1
  have hown := X.2.2.2.1
  have hts := X.2.2.2.2
  have hl : lv_has ls 2 [(0, .int (nI B)), (1, .int (nI q))] := hl
  refine lv_iload_n hx hb dX8_droneAt_0 rfl (lv_at hl 0 rfl) ?_
  refine lv_bipush (v := nI 12) hx hb dX8_droneAt_1 (by decide) ?_
  refine lv_iadd hx hb dX8_droneAt_3 ?_
  refine lv_as (y := nI (B + 12)) (nI_addc (by omega)) ?_
  refine lv_bipush (v := nI 6) hx hb dX8_droneAt_4 (by decide) ?_
  refine lv_iload_n hx hb dX8_droneAt_6 rfl (lv_at hl 1 rfl) ?_
  refine lv_imul hx hb dX8_droneAt_7 ?_
  refine lv_as (y := nI (6 * q)) (nI_mulc (by omega)) ?_
  refine lv_iadd hx hb dX8_droneAt_8 ?_
  refine lv_as (y := nI (B + 6 * q + 12)) (nI_addc (by omega)) ?_
  exact hret (nI (B + 6 * q + 12)) G _ _ 9 _ (⟨rfl, rfl⟩) h dX8_droneAt_9
set_option maxHeartbeats 4000000 in
set_option maxRecDepth 100000 in
theorem c_X8_petitionAt (l : Launch) (J : JJ) (z : Nat) (ad : Nat → Nat) (G : GG) (B q : Nat) : MI l J z ad yX8_petitionAt cX8_petitionAt 2 .int 0 [.int (nI B), .int (nI q)] G (fun ans uG => ans = nI (B + 5 * q + 84) ∧ uG = G) := by
  refine MI.go (by decide) (Nat.le_of_ble_eq_true rfl) ?_
  intro pr e s m args below meth c ls Q X h hl hret
  have hx := X.1
  have hb := X.2.1
  have hown := X.2.2.2.1
  have hts := X.2.2.2.2
  have hl : lv_has ls 2 [(0, .int (nI B)), (1, .int (nI q))] := hl
  refine lv_iload_n hx hb dX8_petitionAt_0 rfl (lv_at hl 0 rfl) ?_
  refine lv_bipush (v := nI 84) hx hb dX8_petitionAt_1 (by decide) ?_
  refine lv_iadd hx hb dX8_petitionAt_3 ?_
  refine lv_as (y := nI (B + 84)) (nI_addc (by omega)) ?_
  refine lv_iconst (v := nI 5) hx hb dX8_petitionAt_4 (by decide) ?_
  refine lv_iload_n hx hb dX8_petitionAt_5 rfl (lv_at hl 1 rfl) ?_
  refine lv_imul hx hb dX8_petitionAt_6 ?_
  refine lv_as (y := nI (5 * q)) (nI_mulc (by omega)) ?_
  refine lv_iadd hx hb dX8_petitionAt_7 ?_
  refine lv_as (y := nI (B + 5 * q + 84)) (nI_addc (by omega)) ?_
  exact hret (nI (B + 5 * q + 84)) G _ _ 8 _ (⟨rfl, rfl⟩) h dX8_petitionAt_8
set_option maxHeartbeats 4000000 in
set_option maxRecDepth 100000 in
theorem c_X8_bylawAt (l : Launch) (J : JJ) (z : Nat) (ad : Nat → Nat) (G : GG) (B x g : Nat) : MI l J z ad yX8_bylawAt cX8_bylawAt 3 .int 0 [.int (nI B), .int (nI x), .int (nI g)] G (fun ans uG => ans = nI (B + 3 * g + 60 * x + 192) ∧ uG = G) := by
  refine MI.go (by decide) (Nat.le_of_ble_eq_true rfl) ?_
  intro pr e s m args below meth c ls Q X h hl hret
  have hx := X.1
  have hb := X.2.1
  have hown := X.2.2.2.1
  have hts := X.2.2.2.2
  have hl : lv_has ls 3 [(0, .int (nI B)), (1, .int (nI x)), (2, .int (nI g))] := hl
  refine lv_iload_n hx hb dX8_bylawAt_0 rfl (lv_at hl 0 rfl) ?_
  refine lv_sipush (v := nI 192) hx hb dX8_bylawAt_1 (by decide) ?_
  refine lv_iadd hx hb dX8_bylawAt_4 ?_
  refine lv_as (y := nI (B + 192)) (nI_addc (by omega)) ?_
  refine lv_iconst (v := nI 3) hx hb dX8_bylawAt_5 (by decide) ?_
  refine lv_bipush (v := nI 20) hx hb dX8_bylawAt_6 (by decide) ?_
  refine lv_iload_n hx hb dX8_bylawAt_8 rfl (lv_at hl 1 rfl) ?_
  refine lv_imul hx hb dX8_bylawAt_9 ?_
  refine lv_as (y := nI (20 * x)) (nI_mulc (by omega)) ?_
  refine lv_iload_n hx hb dX8_bylawAt_10 rfl (lv_at hl 2 rfl) ?_
  refine lv_iadd hx hb dX8_bylawAt_11 ?_
  refine lv_as (y := nI (g + 20 * x)) (nI_addc (by omega)) ?_
  refine lv_imul hx hb dX8_bylawAt_12 ?_
  refine lv_as (y := nI (3 * g + 60 * x)) (nI_mulc (by omega)) ?_
  refine lv_iadd hx hb dX8_bylawAt_13 ?_
  refine lv_as (y := nI (B + 3 * g + 60 * x + 192)) (nI_addc (by omega)) ?_
  exact hret (nI (B + 3 * g + 60 * x + 192)) G _ _ 14 _ (⟨rfl, rfl⟩) h dX8_bylawAt_14
set_option maxHeartbeats 4000000 in
set_option maxRecDepth 100000 in
theorem c_X8_support (l : Launch) (J : JJ) (z : Nat) (ad : Nat → Nat) (G : GG) (r : Nat → Int32) (B : Nat) (hB : B ≤ 4284) (hrow : rwS (G 211) B = r) (hW : WR r) (q : Nat) (hq : q < mn r) : MI l J z ad yX8_support cX8_support 6 .int 1 [.ref (ad 210), .int (nI B), .int (nI q)] G (fun ans uG => ans = supp r q ∧ uG = G) := by
  refine MI.go (by decide) (Nat.le_of_ble_eq_true rfl) ?_
  intro pr e s m args below meth c ls Q X h hl hret
  have hx := X.1
  have hb := X.2.1
  have hown := X.2.2.2.1
  have hts := X.2.2.2.2
  have hl : lv_has ls 6 [(0, .ref (ad 210)), (1, .int (nI B)), (2, .int (nI q))] := hl
  obtain ⟨⟨w1, w2⟩, ⟨w3, w4⟩, ⟨w5, w6⟩, w7, w8⟩ := hW
  obtain ⟨v1, v2, v3, v4, v5, v6, v7, v8⟩ := w7 q hq
  refine lv_iload_n hx hb dX8_support_0 rfl (lv_at hl 1 rfl) ?_
  refine lv_iload_n hx hb dX8_support_1 rfl (lv_at hl 2 rfl) ?_
  refine rg_cisd (As := [.int (nI B), .int (nI q)]) (rest := []) X hl.1 h (c_X8_petitionAt l J z ad G B q) mw_261 mw_262 mw_5 mw_263 pdX8_petitionAt ⟨Nat.le_of_ble_eq_true rfl, Nat.le_of_ble_eq_true rfl⟩ ⟨Nat.le_of_ble_eq_true rfl, Nat.le_of_ble_eq_true rfl⟩ rfl (Nat.le_of_ble_eq_true rfl) dX8_support_2 (fun H locs h => ?_)
  refine lv_as (y := nI (B + 5 * q + 84)) (congrArg nI (by omega)) ?_
  refine lv_istore_n (lv' := [(3, .int (nI (B + 5 * q + 84))), (0, .ref (ad 210)), (1, .int (nI B)), (2, .int (nI q))]) hx hb dX8_support_5 rfl hl (by decide) rfl (fun ls hl => ?_)
  refine lv_aload_n hx hb dX8_support_6 rfl (lv_at hl 1 rfl) ?_
  refine fg_X8_7 X h dX8_support_7 ?_
  refine lv_iload_n hx hb dX8_support_10 rfl (lv_at hl 2 rfl) ?_
  refine lv_aload_n hx hb dX8_support_11 rfl (lv_at hl 1 rfl) ?_
  refine fg_X8_7 X h dX8_support_12 ?_
  refine lv_iload_n hx hb dX8_support_15 rfl (lv_at hl 0 rfl) ?_
  refine rs_ld X h B (5 * q + 84) (congrArg nI (by omega)) (by omega) dX8_support_16 ?_
  refine lv_as (y := nI ((pd r q))) ((congrFun hrow _).trans (v1)) ?_
  refine rg_cisd (As := [.int (nI B), .int (nI ((pd r q)))]) (rest := [.ref (ad 211)]) X hl.1 h (c_X8_droneAt l J z ad G B (pd r q)) mw_190 mw_191 mw_5 mw_192 pdX8_droneAt ⟨Nat.le_of_ble_eq_true rfl, Nat.le_of_ble_eq_true rfl⟩ ⟨Nat.le_of_ble_eq_true rfl, Nat.le_of_ble_eq_true rfl⟩ rfl (Nat.le_of_ble_eq_true rfl) dX8_support_17 (fun H locs h => ?_)
  refine lv_as (y := nI (B + 6 * (pd r q) + 12)) (congrArg nI (by omega)) ?_
  refine lv_iconst (v := nI 1) hx hb dX8_support_20 (by decide) ?_
  refine lv_iadd hx hb dX8_support_21 ?_
  refine lv_as (y := nI (B + 6 * (pd r q) + 13)) (nI_addc (by omega)) ?_
  refine rs_ld X h B (6 * (pd r q) + 13) (congrArg nI (by omega)) (by omega) dX8_support_22 ?_
  refine lv_as (y := r (6 * (pd r q) + 13)) (congrFun hrow _) ?_
  refine lv_istore (lv' := [(4, .int (r (6 * (pd r q) + 13))), (3, .int (nI (B + 5 * q + 84))), (0, .ref (ad 210)), (1, .int (nI B)), (2, .int (nI q))]) hx hb dX8_support_23 hl (by decide) rfl (fun ls hl => ?_)
  refine lv_iconst (v := nI 0) hx hb dX8_support_25 (by decide) ?_
  refine lv_istore (lv' := [(5, .int (nI 0)), (4, .int (r (6 * (pd r q) + 13))), (3, .int (nI (B + 5 * q + 84))), (0, .ref (ad 210)), (1, .int (nI B)), (2, .int (nI q))]) hx hb dX8_support_26 hl (by decide) rfl (fun ls hl => ?_)
  have LP_28 : ∀ (k_28 i_28 : Nat), kn r + 1 ≤ i_28 + k_28 → i_28 ≤ kn r → ∀ (H : Heap) (locs : List Loc) (ls : Array Slot), HG J z ad s G H locs → lv_has ls 6 [(0, .ref (ad 210)), (1, .int (nI B)), (2, .int (nI q)), (3, .int (nI (B + 5 * q + 84))), (4, .int (itr (fun d a => a + ((r (5 * q + 88) >>> (nI d &&& 31)) &&& nI 1) * r (6 * d + 13)) (r (6 * (pd r q) + 13)) i_28)), (5, .int (nI i_28))] → W pr l e (rmD 1 0 0) s m args below meth c H locs 0 0 Q (F0 m 28 ls []) := by
    intro k_28
    induction k_28 with
    | zero =>
      intro i_28 g1 g2
      exact absurd g1 (by omega)
    | succ k_28 ih_28 =>
      intro i_28 g1_28 g2_28  H locs ls h hl
      refine lv_iload hx hb dX8_support_28 (lv_at hl 5 rfl) ?_
      refine lv_aload_n hx hb dX8_support_30 rfl (lv_at hl 0 rfl) ?_
      refine fg_X8_7 X h dX8_support_31 ?_
      refine lv_iload_n hx hb dX8_support_34 rfl (lv_at hl 1 rfl) ?_
      refine lv_iconst (v := nI 5) hx hb dX8_support_35 (by decide) ?_
      refine lv_iadd hx hb dX8_support_36 ?_
      refine lv_as (y := nI (B + 5)) (nI_addc (by omega)) ?_
      refine rs_ld X h B (5) (congrArg nI (by omega)) (by omega) dX8_support_37 ?_
      refine lv_as (y := nI ((kn r))) ((congrFun hrow _).trans (w1)) ?_
      refine lv_icmp_ge (tgt := 79) hx hb dX8_support_38 (by decide) (fun c_38 => ?_) (fun c_38 => ?_)
      · rw [nI_leI (by omega) (by omega)] at c_38
        refine lv_iload hx hb dX8_support_79 (lv_at hl 4 rfl) ?_
        exact hret (itr (fun d a => a + ((r (5 * q + 88) >>> (nI d &&& 31)) &&& nI 1) * r (6 * d + 13)) (r (6 * (pd r q) + 13)) i_28) G _ _ 81 _ (⟨by rw [show i_28 = kn r by omega]; rfl, rfl⟩) h dX8_support_81
      · rw [nI_leI (by omega) (by omega)] at c_38
        refine lv_iload hx hb dX8_support_41 (lv_at hl 4 rfl) ?_
        refine lv_aload_n hx hb dX8_support_43 rfl (lv_at hl 0 rfl) ?_
        refine fg_X8_7 X h dX8_support_44 ?_
        refine lv_iload_n hx hb dX8_support_47 rfl (lv_at hl 3 rfl) ?_
        refine lv_iconst (v := nI 4) hx hb dX8_support_48 (by decide) ?_
        refine lv_iadd hx hb dX8_support_49 ?_
        refine lv_as (y := nI (B + 5 * q + 88)) (nI_addc (by omega)) ?_
        refine rs_ld X h B (5 * q + 88) (congrArg nI (by omega)) (by omega) dX8_support_50 ?_
        refine lv_as (y := r (5 * q + 88)) (congrFun hrow _) ?_
        refine lv_iload hx hb dX8_support_51 (lv_at hl 5 rfl) ?_
        refine lv_ishr hx hb dX8_support_53 ?_
        refine lv_iconst (v := nI 1) hx hb dX8_support_54 (by decide) ?_
        refine lv_iand hx hb dX8_support_55 ?_
        refine lv_aload_n hx hb dX8_support_56 rfl (lv_at hl 0 rfl) ?_
        refine fg_X8_7 X h dX8_support_57 ?_
        refine lv_iload_n hx hb dX8_support_60 rfl (lv_at hl 1 rfl) ?_
        refine lv_iload hx hb dX8_support_61 (lv_at hl 5 rfl) ?_
        refine rg_cisd (As := [.int (nI B), .int (nI i_28)]) (rest := [.ref (ad 211), .int (((r (5 * q + 88)) >>> ((nI i_28) &&& 31)) &&& (nI 1)), .int (itr (fun d a => a + ((r (5 * q + 88) >>> (nI d &&& 31)) &&& nI 1) * r (6 * d + 13)) (r (6 * (pd r q) + 13)) i_28)]) X hl.1 h (c_X8_droneAt l J z ad G B i_28) mw_190 mw_191 mw_5 mw_192 pdX8_droneAt ⟨Nat.le_of_ble_eq_true rfl, Nat.le_of_ble_eq_true rfl⟩ ⟨Nat.le_of_ble_eq_true rfl, Nat.le_of_ble_eq_true rfl⟩ rfl (Nat.le_of_ble_eq_true rfl) dX8_support_63 (fun H locs h => ?_)
        refine lv_as (y := nI (B + 6 * i_28 + 12)) (congrArg nI (by omega)) ?_
        refine lv_iconst (v := nI 1) hx hb dX8_support_66 (by decide) ?_
        refine lv_iadd hx hb dX8_support_67 ?_
        refine lv_as (y := nI (B + 6 * i_28 + 13)) (nI_addc (by omega)) ?_
        refine rs_ld X h B (6 * i_28 + 13) (congrArg nI (by omega)) (by omega) dX8_support_68 ?_
        refine lv_as (y := r (6 * i_28 + 13)) (congrFun hrow _) ?_
        refine lv_imul hx hb dX8_support_69 ?_
        refine lv_iadd hx hb dX8_support_70 ?_
        refine lv_istore (lv' := [(4, .int ((itr (fun d a => a + ((r (5 * q + 88) >>> (nI d &&& 31)) &&& nI 1) * r (6 * d + 13)) (r (6 * (pd r q) + 13)) i_28) + ((((r (5 * q + 88)) >>> ((nI i_28) &&& 31)) &&& (nI 1)) * (r (6 * i_28 + 13))))), (0, .ref (ad 210)), (1, .int (nI B)), (2, .int (nI q)), (3, .int (nI (B + 5 * q + 84))), (5, .int (nI i_28))]) hx hb dX8_support_71 hl (by decide) rfl (fun ls hl => ?_)
        refine lv_iinc (v := nI (i_28 + 1)) (lv' := [(5, .int (nI (i_28 + 1))), (4, .int ((itr (fun d a => a + ((r (5 * q + 88) >>> (nI d &&& 31)) &&& nI 1) * r (6 * d + 13)) (r (6 * (pd r q) + 13)) i_28) + ((((r (5 * q + 88)) >>> ((nI i_28) &&& 31)) &&& (nI 1)) * (r (6 * i_28 + 13))))), (0, .ref (ad 210)), (1, .int (nI B)), (2, .int (nI q)), (3, .int (nI (B + 5 * q + 84)))]) hx hb dX8_support_73 hl (k := 5) rfl (nI_addc (b := 1) (by omega)) (by decide) rfl (fun ls hl => ?_)
        refine lv_goto (tgt := 28) hx hb dX8_support_76 (by decide) ?_
        exact ih_28 (i_28 + 1) (by omega) (by omega) _ _ _ h (lv_sub hl [2, 3, 4, 5, 1, 0] rfl)
  exact LP_28 (kn r + 1) 0 (by omega) (by omega) _ _ _ h (lv_sub hl [3, 4, 5, 2, 1, 0] rfl)
set_option maxHeartbeats 4000000 in
set_option maxRecDepth 100000 in
theorem c_X8_weightAt (l : Launch) (J : JJ) (z : Nat) (ad : Nat → Nat) (G : GG) (r : Nat → Int32) (B : Nat) (hB : B ≤ 4284) (hrow : rwS (G 211) B = r) (hW : WR r) (x : Int32) : MI l J z ad yX8_weightAt cX8_weightAt 6 .int 1 [.ref (ad 210), .int (nI B), .int x] G (fun ans uG => ans = wgt r x ∧ uG = G) := by
  refine MI.go (by decide) (Nat.le_of_ble_eq_true rfl) ?_
  intro pr e s m args below meth c ls Q X h hl hret
  have hx := X.1
  have hb := X.2.1
  have hown := X.2.2.2.1
  have hts := X.2.2.2.2
  have hl : lv_has ls 6 [(0, .ref (ad 210)), (1, .int (nI B)), (2, .int x)] := hl
  obtain ⟨⟨w1, w2⟩, ⟨w3, w4⟩, ⟨w5, w6⟩, w7, w8⟩ := hW
  refine lv_iconst (v := nI 0) hx hb dX8_weightAt_0 (by decide) ?_
  refine lv_istore_n (lv' := [(3, .int (nI 0)), (0, .ref (ad 210)), (1, .int (nI B)), (2, .int x)]) hx hb dX8_weightAt_1 rfl hl (by decide) rfl (fun ls hl => ?_)
  refine lv_iconst (v := nI 0) hx hb dX8_weightAt_2 (by decide) ?_
  refine lv_istore (lv' := [(4, .int (nI 0)), (3, .int (nI 0)), (0, .ref (ad 210)), (1, .int (nI B)), (2, .int x)]) hx hb dX8_weightAt_3 hl (by decide) rfl (fun ls hl => ?_)
  have LP_5 : ∀ (k_5 i_5 : Nat), kn r + 1 ≤ i_5 + k_5 → i_5 ≤ kn r → ∀ (H : Heap) (locs : List Loc) (ls : Array Slot), HG J z ad s G H locs → lv_has ls 6 [(0, .ref (ad 210)), (1, .int (nI B)), (2, .int x), (3, .int (itr (fun d a => a + (if x = nI 6 ∨ r (6 * d + 12) = x then r (6 * d + 13) else nI 0)) (nI 0) i_5)), (4, .int (nI i_5))] → W pr l e (rmD 1 0 0) s m args below meth c H locs 0 0 Q (F0 m 5 ls []) := by
    intro k_5
    induction k_5 with
    | zero =>
      intro i_5 g1 g2
      exact absurd g1 (by omega)
    | succ k_5 ih_5 =>
      intro i_5 g1_5 g2_5  H locs ls h hl
      refine lv_iload hx hb dX8_weightAt_5 (lv_at hl 4 rfl) ?_
      refine lv_aload_n hx hb dX8_weightAt_7 rfl (lv_at hl 0 rfl) ?_
      refine fg_X8_7 X h dX8_weightAt_8 ?_
      refine lv_iload_n hx hb dX8_weightAt_11 rfl (lv_at hl 1 rfl) ?_
      refine lv_iconst (v := nI 5) hx hb dX8_weightAt_12 (by decide) ?_
      refine lv_iadd hx hb dX8_weightAt_13 ?_
      refine lv_as (y := nI (B + 5)) (nI_addc (by omega)) ?_
      refine rs_ld X h B (5) (congrArg nI (by omega)) (by omega) dX8_weightAt_14 ?_
      refine lv_as (y := nI ((kn r))) ((congrFun hrow _).trans (w1)) ?_
      refine lv_icmp_ge (tgt := 65) hx hb dX8_weightAt_15 (by decide) (fun c_15 => ?_) (fun c_15 => ?_)
      · rw [nI_leI (by omega) (by omega)] at c_15
        refine lv_iload_n hx hb dX8_weightAt_65 rfl (lv_at hl 3 rfl) ?_
        exact hret (itr (fun d a => a + (if x = nI 6 ∨ r (6 * d + 12) = x then r (6 * d + 13) else nI 0)) (nI 0) i_5) G _ _ 66 _ (⟨by rw [show i_5 = kn r by omega]; rfl, rfl⟩) h dX8_weightAt_66
      · rw [nI_leI (by omega) (by omega)] at c_15
        refine lv_iload_n hx hb dX8_weightAt_18 rfl (lv_at hl 1 rfl) ?_
        refine lv_iload hx hb dX8_weightAt_19 (lv_at hl 4 rfl) ?_
        refine rg_cisd (As := [.int (nI B), .int (nI i_5)]) (rest := []) X hl.1 h (c_X8_droneAt l J z ad G B i_5) mw_190 mw_191 mw_5 mw_192 pdX8_droneAt ⟨Nat.le_of_ble_eq_true rfl, Nat.le_of_ble_eq_true rfl⟩ ⟨Nat.le_of_ble_eq_true rfl, Nat.le_of_ble_eq_true rfl⟩ rfl (Nat.le_of_ble_eq_true rfl) dX8_weightAt_21 (fun H locs h => ?_)
        refine lv_as (y := nI (B + 6 * i_5 + 12)) (congrArg nI (by omega)) ?_
        refine lv_istore (lv' := [(5, .int (nI (B + 6 * i_5 + 12))), (0, .ref (ad 210)), (1, .int (nI B)), (2, .int x), (3, .int (itr (fun d a => a + (if x = nI 6 ∨ r (6 * d + 12) = x then r (6 * d + 13) else nI 0)) (nI 0) i_5)), (4, .int (nI i_5))]) hx hb dX8_weightAt_24 hl (by decide) rfl (fun ls hl => ?_)
        refine lv_iload_n hx hb dX8_weightAt_26 rfl (lv_at hl 4 rfl) ?_
        refine lv_iload_n hx hb dX8_weightAt_27 rfl (lv_at hl 3 rfl) ?_
        refine lv_bipush (v := nI 6) hx hb dX8_weightAt_28 (by decide) ?_
        refine lv_icmp_eq (tgt := 44) hx hb dX8_weightAt_30 (by decide) (fun c_30 => ?_) (fun c_30 => ?_)
        · refine lv_aload_n hx hb dX8_weightAt_44 rfl (lv_at hl 1 rfl) ?_
          refine fg_X8_7 X h dX8_weightAt_45 ?_
          refine lv_iload hx hb dX8_weightAt_48 (lv_at hl 0 rfl) ?_
          refine lv_iconst (v := nI 1) hx hb dX8_weightAt_50 (by decide) ?_
          refine lv_iadd hx hb dX8_weightAt_51 ?_
          refine lv_as (y := nI (B + 6 * i_5 + 13)) (nI_addc (by omega)) ?_
          refine rs_ld X h B (6 * i_5 + 13) (congrArg nI (by omega)) (by omega) dX8_weightAt_52 ?_
          refine lv_as (y := r (6 * i_5 + 13)) (congrFun hrow _) ?_
          refine lv_goto (tgt := 57) hx hb dX8_weightAt_53 (by decide) ?_
          refine lv_as (y := if x = nI 6 ∨ r (6 * i_5 + 12) = x then r (6 * i_5 + 13) else nI 0) (by first | rw [if_pos (Or.inl (by assumption))] | rw [if_pos (Or.inr (by assumption))]) ?_
          refine lv_iadd hx hb dX8_weightAt_57 ?_
          refine lv_istore_n (lv' := [(3, .int ((itr (fun d a => a + (if x = nI 6 ∨ r (6 * d + 12) = x then r (6 * d + 13) else nI 0)) (nI 0) i_5) + (if x = nI 6 ∨ r (6 * i_5 + 12) = x then r (6 * i_5 + 13) else nI 0))), (5, .int (nI (B + 6 * i_5 + 12))), (0, .ref (ad 210)), (1, .int (nI B)), (2, .int x), (4, .int (nI i_5))]) hx hb dX8_weightAt_58 rfl hl (by decide) rfl (fun ls hl => ?_)
          refine lv_iinc (v := nI (i_5 + 1)) (lv' := [(4, .int (nI (i_5 + 1))), (3, .int ((itr (fun d a => a + (if x = nI 6 ∨ r (6 * d + 12) = x then r (6 * d + 13) else nI 0)) (nI 0) i_5) + (if x = nI 6 ∨ r (6 * i_5 + 12) = x then r (6 * i_5 + 13) else nI 0))), (5, .int (nI (B + 6 * i_5 + 12))), (0, .ref (ad 210)), (1, .int (nI B)), (2, .int x)]) hx hb dX8_weightAt_59 hl (k := 5) rfl (nI_addc (b := 1) (by omega)) (by decide) rfl (fun ls hl => ?_)
          refine lv_goto (tgt := 5) hx hb dX8_weightAt_62 (by decide) ?_
          exact ih_5 (i_5 + 1) (by omega) (by omega) _ _ _ h (lv_sub hl [3, 4, 5, 1, 0] rfl)
        · refine lv_aload_n hx hb dX8_weightAt_33 rfl (lv_at hl 1 rfl) ?_
          refine fg_X8_7 X h dX8_weightAt_34 ?_
          refine lv_iload hx hb dX8_weightAt_37 (lv_at hl 0 rfl) ?_
          refine rs_ld X h B (6 * i_5 + 12) (congrArg nI (by omega)) (by omega) dX8_weightAt_39 ?_
          refine lv_as (y := r (6 * i_5 + 12)) (congrFun hrow _) ?_
          refine lv_iload_n hx hb dX8_weightAt_40 rfl (lv_at hl 3 rfl) ?_
          refine lv_icmp_ne (tgt := 56) hx hb dX8_weightAt_41 (by decide) (fun c_41 => ?_) (fun c_41 => ?_)
          · refine lv_iconst (v := nI 0) hx hb dX8_weightAt_56 (by decide) ?_
            refine lv_as (y := if x = nI 6 ∨ r (6 * i_5 + 12) = x then r (6 * i_5 + 13) else nI 0) (by rw [if_neg (fun q => q.elim (by assumption) (by assumption))]) ?_
            refine lv_iadd hx hb dX8_weightAt_57 ?_
            refine lv_istore_n (lv' := [(3, .int ((itr (fun d a => a + (if x = nI 6 ∨ r (6 * d + 12) = x then r (6 * d + 13) else nI 0)) (nI 0) i_5) + (if x = nI 6 ∨ r (6 * i_5 + 12) = x then r (6 * i_5 + 13) else nI 0))), (5, .int (nI (B + 6 * i_5 + 12))), (0, .ref (ad 210)), (1, .int (nI B)), (2, .int x), (4, .int (nI i_5))]) hx hb dX8_weightAt_58 rfl hl (by decide) rfl (fun ls hl => ?_)
            refine lv_iinc (v := nI (i_5 + 1)) (lv' := [(4, .int (nI (i_5 + 1))), (3, .int ((itr (fun d a => a + (if x = nI 6 ∨ r (6 * d + 12) = x then r (6 * d + 13) else nI 0)) (nI 0) i_5) + (if x = nI 6 ∨ r (6 * i_5 + 12) = x then r (6 * i_5 + 13) else nI 0))), (5, .int (nI (B + 6 * i_5 + 12))), (0, .ref (ad 210)), (1, .int (nI B)), (2, .int x)]) hx hb dX8_weightAt_59 hl (k := 5) rfl (nI_addc (b := 1) (by omega)) (by decide) rfl (fun ls hl => ?_)
            refine lv_goto (tgt := 5) hx hb dX8_weightAt_62 (by decide) ?_
            exact ih_5 (i_5 + 1) (by omega) (by omega) _ _ _ h (lv_sub hl [3, 4, 5, 1, 0] rfl)
          · refine lv_aload_n hx hb dX8_weightAt_44 rfl (lv_at hl 1 rfl) ?_
            refine fg_X8_7 X h dX8_weightAt_45 ?_
            refine lv_iload hx hb dX8_weightAt_48 (lv_at hl 0 rfl) ?_
            refine lv_iconst (v := nI 1) hx hb dX8_weightAt_50 (by decide) ?_
            refine lv_iadd hx hb dX8_weightAt_51 ?_
            refine lv_as (y := nI (B + 6 * i_5 + 13)) (nI_addc (by omega)) ?_
            refine rs_ld X h B (6 * i_5 + 13) (congrArg nI (by omega)) (by omega) dX8_weightAt_52 ?_
            refine lv_as (y := r (6 * i_5 + 13)) (congrFun hrow _) ?_
            refine lv_goto (tgt := 57) hx hb dX8_weightAt_53 (by decide) ?_
            refine lv_as (y := if x = nI 6 ∨ r (6 * i_5 + 12) = x then r (6 * i_5 + 13) else nI 0) (by first | rw [if_pos (Or.inl (by assumption))] | rw [if_pos (Or.inr (by assumption))]) ?_
            refine lv_iadd hx hb dX8_weightAt_57 ?_
            refine lv_istore_n (lv' := [(3, .int ((itr (fun d a => a + (if x = nI 6 ∨ r (6 * d + 12) = x then r (6 * d + 13) else nI 0)) (nI 0) i_5) + (if x = nI 6 ∨ r (6 * i_5 + 12) = x then r (6 * i_5 + 13) else nI 0))), (5, .int (nI (B + 6 * i_5 + 12))), (0, .ref (ad 210)), (1, .int (nI B)), (2, .int x), (4, .int (nI i_5))]) hx hb dX8_weightAt_58 rfl hl (by decide) rfl (fun ls hl => ?_)
            refine lv_iinc (v := nI (i_5 + 1)) (lv' := [(4, .int (nI (i_5 + 1))), (3, .int ((itr (fun d a => a + (if x = nI 6 ∨ r (6 * d + 12) = x then r (6 * d + 13) else nI 0)) (nI 0) i_5) + (if x = nI 6 ∨ r (6 * i_5 + 12) = x then r (6 * i_5 + 13) else nI 0))), (5, .int (nI (B + 6 * i_5 + 12))), (0, .ref (ad 210)), (1, .int (nI B)), (2, .int x)]) hx hb dX8_weightAt_59 hl (k := 5) rfl (nI_addc (b := 1) (by omega)) (by decide) rfl (fun ls hl => ?_)
            refine lv_goto (tgt := 5) hx hb dX8_weightAt_62 (by decide) ?_
            exact ih_5 (i_5 + 1) (by omega) (by omega) _ _ _ h (lv_sub hl [3, 4, 5, 1, 0] rfl)
  exact LP_5 (kn r + 1) 0 (by omega) (by omega) _ _ _ h (lv_sub hl [2, 3, 4, 1, 0] rfl)
set_option maxHeartbeats 4000000 in
set_option maxRecDepth 100000 in
theorem c_X8_refusedWith (l : Launch) (J : JJ) (z : Nat) (ad : Nat → Nat) (G : GG) (r : Nat → Int32) (B : Nat) (hB : B ≤ 4284) (hrow : rwS (G 211) B = r) (hW : WR r) (x g k : Int32) : MI l J z ad yX8_refusedWith cX8_refusedWith 9 .int 0 [.ref (ad 210), .int (nI B), .int x, .int g, .int k] G (fun ans uG => ans = refw r x g k ∧ uG = G) := by
  refine MI.go (by decide) (Nat.le_of_ble_eq_true rfl) ?_
  intro pr e s m args below meth c ls Q X h hl hret
  have hx := X.1
  have hb := X.2.1
  have hown := X.2.2.2.1
  have hts := X.2.2.2.2
  have hl : lv_has ls 9 [(0, .ref (ad 210)), (1, .int (nI B)), (2, .int x), (3, .int g), (4, .int k)] := hl
  obtain ⟨⟨w1, w2⟩, ⟨w3, w4⟩, ⟨w5, w6⟩, w7, w8⟩ := hW
  refine lv_bipush (v := (-5)) hx hb dX8_refusedWith_0 (by decide) ?_
  refine lv_istore (lv' := [(5, .int ((-5))), (0, .ref (ad 210)), (1, .int (nI B)), (2, .int x), (3, .int g), (4, .int k)]) hx hb dX8_refusedWith_2 hl (by decide) rfl (fun ls hl => ?_)
  refine lv_iconst (v := nI 0) hx hb dX8_refusedWith_4 (by decide) ?_
  refine lv_istore (lv' := [(6, .int (nI 0)), (5, .int ((-5))), (0, .ref (ad 210)), (1, .int (nI B)), (2, .int x), (3, .int g), (4, .int k)]) hx hb dX8_refusedWith_5 hl (by decide) rfl (fun ls hl => ?_)
  have LP_7 : ∀ (k_7 i_7 : Nat), on r + 1 ≤ i_7 + k_7 → i_7 ≤ on r → ∀ (H : Heap) (locs : List Loc) (ls : Array Slot), HG J z ad s G H locs → lv_has ls 9 [(0, .ref (ad 210)), (1, .int (nI B)), (2, .int x), (3, .int g), (4, .int k), (5, .int (itr (fun i a => if (r (4 * i + 144) = x ∧ r (4 * i + 145) = g ∧ r (4 * i + 146) = k) ∧ a < r (4 * i + 147) then r (4 * i + 147) else a) (-5) i_7)), (6, .int (nI i_7))] → W pr l e (rmD 0 0 0) s m args below meth c H locs 0 0 Q (F0 m 7 ls []) := by
    intro k_7
    induction k_7 with
    | zero =>
      intro i_7 g1 g2
      exact absurd g1 (by omega)
    | succ k_7 ih_7 =>
      intro i_7 g1_7 g2_7  H locs ls h hl
      refine lv_iload hx hb dX8_refusedWith_7 (lv_at hl 6 rfl) ?_
      refine lv_aload_n hx hb dX8_refusedWith_9 rfl (lv_at hl 0 rfl) ?_
      refine fg_X8_7 X h dX8_refusedWith_10 ?_
      refine lv_iload_n hx hb dX8_refusedWith_13 rfl (lv_at hl 1 rfl) ?_
      refine lv_bipush (v := nI 11) hx hb dX8_refusedWith_14 (by decide) ?_
      refine lv_iadd hx hb dX8_refusedWith_16 ?_
      refine lv_as (y := nI (B + 11)) (nI_addc (by omega)) ?_
      refine rs_ld X h B (11) (congrArg nI (by omega)) (by omega) dX8_refusedWith_17 ?_
      refine lv_as (y := nI ((on r))) ((congrFun hrow _).trans (w5)) ?_
      refine lv_icmp_ge (tgt := 119) hx hb dX8_refusedWith_18 (by decide) (fun c_18 => ?_) (fun c_18 => ?_)
      · rw [nI_leI (by omega) (by omega)] at c_18
        refine lv_iload hx hb dX8_refusedWith_119 (lv_at hl 5 rfl) ?_
        exact hret (itr (fun i a => if (r (4 * i + 144) = x ∧ r (4 * i + 145) = g ∧ r (4 * i + 146) = k) ∧ a < r (4 * i + 147) then r (4 * i + 147) else a) (-5) i_7) G _ _ 121 _ (⟨by rw [show i_7 = on r by omega]; rfl, rfl⟩) h dX8_refusedWith_121
      · rw [nI_leI (by omega) (by omega)] at c_18
        refine lv_iload_n hx hb dX8_refusedWith_21 rfl (lv_at hl 1 rfl) ?_
        refine lv_sipush (v := nI 144) hx hb dX8_refusedWith_22 (by decide) ?_
        refine lv_iadd hx hb dX8_refusedWith_25 ?_
        refine lv_as (y := nI (B + 144)) (nI_addc (by omega)) ?_
        refine lv_iconst (v := nI 4) hx hb dX8_refusedWith_26 (by decide) ?_
        refine lv_iload hx hb dX8_refusedWith_27 (lv_at hl 6 rfl) ?_
        refine lv_imul hx hb dX8_refusedWith_29 ?_
        refine lv_as (y := nI (4 * i_7)) (nI_mulc (by omega)) ?_
        refine lv_iadd hx hb dX8_refusedWith_30 ?_
        refine lv_as (y := nI (B + 4 * i_7 + 144)) (nI_addc (by omega)) ?_
        refine lv_istore (lv' := [(7, .int (nI (B + 4 * i_7 + 144))), (0, .ref (ad 210)), (1, .int (nI B)), (2, .int x), (3, .int g), (4, .int k), (5, .int (itr (fun i a => if (r (4 * i + 144) = x ∧ r (4 * i + 145) = g ∧ r (4 * i + 146) = k) ∧ a < r (4 * i + 147) then r (4 * i + 147) else a) (-5) i_7)), (6, .int (nI i_7))]) hx hb dX8_refusedWith_31 hl (by decide) rfl (fun ls hl => ?_)
        refine lv_aload_n hx hb dX8_refusedWith_33 rfl (lv_at hl 1 rfl) ?_
        refine fg_X8_7 X h dX8_refusedWith_34 ?_
        refine lv_iload hx hb dX8_refusedWith_37 (lv_at hl 0 rfl) ?_
        refine rs_ld X h B (4 * i_7 + 144) (congrArg nI (by omega)) (by omega) dX8_refusedWith_39 ?_
        refine lv_as (y := r (4 * i_7 + 144)) (congrFun hrow _) ?_
        refine lv_iload_n hx hb dX8_refusedWith_40 rfl (lv_at hl 3 rfl) ?_
        refine lv_icmp_ne (tgt := 75) hx hb dX8_refusedWith_41 (by decide) (fun c_41 => ?_) (fun c_41 => ?_)
        · refine lv_iconst (v := nI 0) hx hb dX8_refusedWith_75 (by decide) ?_
          refine lv_istore (lv' := [(8, .int (nI 0)), (7, .int (nI (B + 4 * i_7 + 144))), (0, .ref (ad 210)), (1, .int (nI B)), (2, .int x), (3, .int g), (4, .int k), (5, .int (itr (fun i a => if (r (4 * i + 144) = x ∧ r (4 * i + 145) = g ∧ r (4 * i + 146) = k) ∧ a < r (4 * i + 147) then r (4 * i + 147) else a) (-5) i_7)), (6, .int (nI i_7))]) hx hb dX8_refusedWith_76 hl (by decide) rfl (fun ls hl => ?_)
          refine lv_iload hx hb dX8_refusedWith_78 (lv_at hl 0 rfl) ?_
          refine lv_if_eq (tgt := 109) hx hb dX8_refusedWith_80 (by decide) (fun c_80 => ?_) (fun c_80 => absurd (by decide) c_80)
          refine lv_iload hx hb dX8_refusedWith_109 (lv_at hl 7 rfl) ?_
          refine lv_as (y := itr (fun i a => if (r (4 * i + 144) = x ∧ r (4 * i + 145) = g ∧ r (4 * i + 146) = k) ∧ a < r (4 * i + 147) then r (4 * i + 147) else a) (-5) (i_7 + 1)) (by show _ = ite _ _ _; rw [if_neg (fun q => by simp_all)]) ?_
          refine lv_istore (lv' := [(5, .int (itr (fun i a => if (r (4 * i + 144) = x ∧ r (4 * i + 145) = g ∧ r (4 * i + 146) = k) ∧ a < r (4 * i + 147) then r (4 * i + 147) else a) (-5) (i_7 + 1))), (8, .int (nI 0)), (7, .int (nI (B + 4 * i_7 + 144))), (0, .ref (ad 210)), (1, .int (nI B)), (2, .int x), (3, .int g), (4, .int k), (6, .int (nI i_7))]) hx hb dX8_refusedWith_111 hl (by decide) rfl (fun ls hl => ?_)
          refine lv_iinc (v := nI (i_7 + 1)) (lv' := [(6, .int (nI (i_7 + 1))), (5, .int (itr (fun i a => if (r (4 * i + 144) = x ∧ r (4 * i + 145) = g ∧ r (4 * i + 146) = k) ∧ a < r (4 * i + 147) then r (4 * i + 147) else a) (-5) (i_7 + 1))), (8, .int (nI 0)), (7, .int (nI (B + 4 * i_7 + 144))), (0, .ref (ad 210)), (1, .int (nI B)), (2, .int x), (3, .int g), (4, .int k)]) hx hb dX8_refusedWith_113 hl (k := 8) rfl (nI_addc (b := 1) (by omega)) (by decide) rfl (fun ls hl => ?_)
          refine lv_goto (tgt := 7) hx hb dX8_refusedWith_116 (by decide) ?_
          exact ih_7 (i_7 + 1) (by omega) (by omega) _ _ _ h (lv_sub hl [4, 5, 6, 7, 8, 1, 0] rfl)
        · refine lv_aload_n hx hb dX8_refusedWith_44 rfl (lv_at hl 1 rfl) ?_
          refine fg_X8_7 X h dX8_refusedWith_45 ?_
          refine lv_iload hx hb dX8_refusedWith_48 (lv_at hl 0 rfl) ?_
          refine lv_iconst (v := nI 1) hx hb dX8_refusedWith_50 (by decide) ?_
          refine lv_iadd hx hb dX8_refusedWith_51 ?_
          refine lv_as (y := nI (B + 4 * i_7 + 145)) (nI_addc (by omega)) ?_
          refine rs_ld X h B (4 * i_7 + 145) (congrArg nI (by omega)) (by omega) dX8_refusedWith_52 ?_
          refine lv_as (y := r (4 * i_7 + 145)) (congrFun hrow _) ?_
          refine lv_iload_n hx hb dX8_refusedWith_53 rfl (lv_at hl 4 rfl) ?_
          refine lv_icmp_ne (tgt := 75) hx hb dX8_refusedWith_54 (by decide) (fun c_54 => ?_) (fun c_54 => ?_)
          · refine lv_iconst (v := nI 0) hx hb dX8_refusedWith_75 (by decide) ?_
            refine lv_istore (lv' := [(8, .int (nI 0)), (7, .int (nI (B + 4 * i_7 + 144))), (0, .ref (ad 210)), (1, .int (nI B)), (2, .int x), (3, .int g), (4, .int k), (5, .int (itr (fun i a => if (r (4 * i + 144) = x ∧ r (4 * i + 145) = g ∧ r (4 * i + 146) = k) ∧ a < r (4 * i + 147) then r (4 * i + 147) else a) (-5) i_7)), (6, .int (nI i_7))]) hx hb dX8_refusedWith_76 hl (by decide) rfl (fun ls hl => ?_)
            refine lv_iload hx hb dX8_refusedWith_78 (lv_at hl 0 rfl) ?_
            refine lv_if_eq (tgt := 109) hx hb dX8_refusedWith_80 (by decide) (fun c_80 => ?_) (fun c_80 => absurd (by decide) c_80)
            refine lv_iload hx hb dX8_refusedWith_109 (lv_at hl 7 rfl) ?_
            refine lv_as (y := itr (fun i a => if (r (4 * i + 144) = x ∧ r (4 * i + 145) = g ∧ r (4 * i + 146) = k) ∧ a < r (4 * i + 147) then r (4 * i + 147) else a) (-5) (i_7 + 1)) (by show _ = ite _ _ _; rw [if_neg (fun q => by simp_all)]) ?_
            refine lv_istore (lv' := [(5, .int (itr (fun i a => if (r (4 * i + 144) = x ∧ r (4 * i + 145) = g ∧ r (4 * i + 146) = k) ∧ a < r (4 * i + 147) then r (4 * i + 147) else a) (-5) (i_7 + 1))), (8, .int (nI 0)), (7, .int (nI (B + 4 * i_7 + 144))), (0, .ref (ad 210)), (1, .int (nI B)), (2, .int x), (3, .int g), (4, .int k), (6, .int (nI i_7))]) hx hb dX8_refusedWith_111 hl (by decide) rfl (fun ls hl => ?_)
            refine lv_iinc (v := nI (i_7 + 1)) (lv' := [(6, .int (nI (i_7 + 1))), (5, .int (itr (fun i a => if (r (4 * i + 144) = x ∧ r (4 * i + 145) = g ∧ r (4 * i + 146) = k) ∧ a < r (4 * i + 147) then r (4 * i + 147) else a) (-5) (i_7 + 1))), (8, .int (nI 0)), (7, .int (nI (B + 4 * i_7 + 144))), (0, .ref (ad 210)), (1, .int (nI B)), (2, .int x), (3, .int g), (4, .int k)]) hx hb dX8_refusedWith_113 hl (k := 8) rfl (nI_addc (b := 1) (by omega)) (by decide) rfl (fun ls hl => ?_)
            refine lv_goto (tgt := 7) hx hb dX8_refusedWith_116 (by decide) ?_
            exact ih_7 (i_7 + 1) (by omega) (by omega) _ _ _ h (lv_sub hl [4, 5, 6, 7, 8, 1, 0] rfl)
          · refine lv_aload_n hx hb dX8_refusedWith_57 rfl (lv_at hl 1 rfl) ?_
            refine fg_X8_7 X h dX8_refusedWith_58 ?_
            refine lv_iload hx hb dX8_refusedWith_61 (lv_at hl 0 rfl) ?_
            refine lv_iconst (v := nI 2) hx hb dX8_refusedWith_63 (by decide) ?_
            refine lv_iadd hx hb dX8_refusedWith_64 ?_
            refine lv_as (y := nI (B + 4 * i_7 + 146)) (nI_addc (by omega)) ?_
            refine rs_ld X h B (4 * i_7 + 146) (congrArg nI (by omega)) (by omega) dX8_refusedWith_65 ?_
            refine lv_as (y := r (4 * i_7 + 146)) (congrFun hrow _) ?_
            refine lv_iload hx hb dX8_refusedWith_66 (lv_at hl 5 rfl) ?_
            refine lv_icmp_ne (tgt := 75) hx hb dX8_refusedWith_68 (by decide) (fun c_68 => ?_) (fun c_68 => ?_)
            · refine lv_iconst (v := nI 0) hx hb dX8_refusedWith_75 (by decide) ?_
              refine lv_istore (lv' := [(8, .int (nI 0)), (7, .int (nI (B + 4 * i_7 + 144))), (0, .ref (ad 210)), (1, .int (nI B)), (2, .int x), (3, .int g), (4, .int k), (5, .int (itr (fun i a => if (r (4 * i + 144) = x ∧ r (4 * i + 145) = g ∧ r (4 * i + 146) = k) ∧ a < r (4 * i + 147) then r (4 * i + 147) else a) (-5) i_7)), (6, .int (nI i_7))]) hx hb dX8_refusedWith_76 hl (by decide) rfl (fun ls hl => ?_)
              refine lv_iload hx hb dX8_refusedWith_78 (lv_at hl 0 rfl) ?_
              refine lv_if_eq (tgt := 109) hx hb dX8_refusedWith_80 (by decide) (fun c_80 => ?_) (fun c_80 => absurd (by decide) c_80)
              refine lv_iload hx hb dX8_refusedWith_109 (lv_at hl 7 rfl) ?_
              refine lv_as (y := itr (fun i a => if (r (4 * i + 144) = x ∧ r (4 * i + 145) = g ∧ r (4 * i + 146) = k) ∧ a < r (4 * i + 147) then r (4 * i + 147) else a) (-5) (i_7 + 1)) (by show _ = ite _ _ _; rw [if_neg (fun q => by simp_all)]) ?_
              refine lv_istore (lv' := [(5, .int (itr (fun i a => if (r (4 * i + 144) = x ∧ r (4 * i + 145) = g ∧ r (4 * i + 146) = k) ∧ a < r (4 * i + 147) then r (4 * i + 147) else a) (-5) (i_7 + 1))), (8, .int (nI 0)), (7, .int (nI (B + 4 * i_7 + 144))), (0, .ref (ad 210)), (1, .int (nI B)), (2, .int x), (3, .int g), (4, .int k), (6, .int (nI i_7))]) hx hb dX8_refusedWith_111 hl (by decide) rfl (fun ls hl => ?_)
              refine lv_iinc (v := nI (i_7 + 1)) (lv' := [(6, .int (nI (i_7 + 1))), (5, .int (itr (fun i a => if (r (4 * i + 144) = x ∧ r (4 * i + 145) = g ∧ r (4 * i + 146) = k) ∧ a < r (4 * i + 147) then r (4 * i + 147) else a) (-5) (i_7 + 1))), (8, .int (nI 0)), (7, .int (nI (B + 4 * i_7 + 144))), (0, .ref (ad 210)), (1, .int (nI B)), (2, .int x), (3, .int g), (4, .int k)]) hx hb dX8_refusedWith_113 hl (k := 8) rfl (nI_addc (b := 1) (by omega)) (by decide) rfl (fun ls hl => ?_)
              refine lv_goto (tgt := 7) hx hb dX8_refusedWith_116 (by decide) ?_
              exact ih_7 (i_7 + 1) (by omega) (by omega) _ _ _ h (lv_sub hl [4, 5, 6, 7, 8, 1, 0] rfl)
            · refine lv_iconst (v := nI 1) hx hb dX8_refusedWith_71 (by decide) ?_
              refine lv_goto (tgt := 76) hx hb dX8_refusedWith_72 (by decide) ?_
              refine lv_istore (lv' := [(8, .int (nI 1)), (7, .int (nI (B + 4 * i_7 + 144))), (0, .ref (ad 210)), (1, .int (nI B)), (2, .int x), (3, .int g), (4, .int k), (5, .int (itr (fun i a => if (r (4 * i + 144) = x ∧ r (4 * i + 145) = g ∧ r (4 * i + 146) = k) ∧ a < r (4 * i + 147) then r (4 * i + 147) else a) (-5) i_7)), (6, .int (nI i_7))]) hx hb dX8_refusedWith_76 hl (by decide) rfl (fun ls hl => ?_)
              refine lv_iload hx hb dX8_refusedWith_78 (lv_at hl 0 rfl) ?_
              refine lv_if_eq (tgt := 109) hx hb dX8_refusedWith_80 (by decide) (fun c_80 => absurd c_80 (by decide)) (fun c_80 => ?_)
              refine lv_aload_n hx hb dX8_refusedWith_83 rfl (lv_at hl 2 rfl) ?_
              refine fg_X8_7 X h dX8_refusedWith_84 ?_
              refine lv_iload hx hb dX8_refusedWith_87 (lv_at hl 1 rfl) ?_
              refine lv_iconst (v := nI 3) hx hb dX8_refusedWith_89 (by decide) ?_
              refine lv_iadd hx hb dX8_refusedWith_90 ?_
              refine lv_as (y := nI (B + 4 * i_7 + 147)) (nI_addc (by omega)) ?_
              refine rs_ld X h B (4 * i_7 + 147) (congrArg nI (by omega)) (by omega) dX8_refusedWith_91 ?_
              refine lv_as (y := r (4 * i_7 + 147)) (congrFun hrow _) ?_
              refine lv_iload hx hb dX8_refusedWith_92 (lv_at hl 7 rfl) ?_
              refine lv_icmp_le (tgt := 109) hx hb dX8_refusedWith_94 (by decide) (fun c_94 => ?_) (fun c_94 => ?_)
              · refine lv_iload hx hb dX8_refusedWith_109 (lv_at hl 7 rfl) ?_
                refine lv_as (y := itr (fun i a => if (r (4 * i + 144) = x ∧ r (4 * i + 145) = g ∧ r (4 * i + 146) = k) ∧ a < r (4 * i + 147) then r (4 * i + 147) else a) (-5) (i_7 + 1)) (by show _ = ite _ _ _; rw [if_neg (fun q => Int32.not_lt.mpr c_94 q.2)]) ?_
                refine lv_istore (lv' := [(5, .int (itr (fun i a => if (r (4 * i + 144) = x ∧ r (4 * i + 145) = g ∧ r (4 * i + 146) = k) ∧ a < r (4 * i + 147) then r (4 * i + 147) else a) (-5) (i_7 + 1))), (8, .int (nI 1)), (7, .int (nI (B + 4 * i_7 + 144))), (0, .ref (ad 210)), (1, .int (nI B)), (2, .int x), (3, .int g), (4, .int k), (6, .int (nI i_7))]) hx hb dX8_refusedWith_111 hl (by decide) rfl (fun ls hl => ?_)
                refine lv_iinc (v := nI (i_7 + 1)) (lv' := [(6, .int (nI (i_7 + 1))), (5, .int (itr (fun i a => if (r (4 * i + 144) = x ∧ r (4 * i + 145) = g ∧ r (4 * i + 146) = k) ∧ a < r (4 * i + 147) then r (4 * i + 147) else a) (-5) (i_7 + 1))), (8, .int (nI 1)), (7, .int (nI (B + 4 * i_7 + 144))), (0, .ref (ad 210)), (1, .int (nI B)), (2, .int x), (3, .int g), (4, .int k)]) hx hb dX8_refusedWith_113 hl (k := 8) rfl (nI_addc (b := 1) (by omega)) (by decide) rfl (fun ls hl => ?_)
                refine lv_goto (tgt := 7) hx hb dX8_refusedWith_116 (by decide) ?_
                exact ih_7 (i_7 + 1) (by omega) (by omega) _ _ _ h (lv_sub hl [4, 5, 6, 7, 8, 1, 0] rfl)
              · refine lv_aload_n hx hb dX8_refusedWith_97 rfl (lv_at hl 2 rfl) ?_
                refine fg_X8_7 X h dX8_refusedWith_98 ?_
                refine lv_iload hx hb dX8_refusedWith_101 (lv_at hl 1 rfl) ?_
                refine lv_iconst (v := nI 3) hx hb dX8_refusedWith_103 (by decide) ?_
                refine lv_iadd hx hb dX8_refusedWith_104 ?_
                refine lv_as (y := nI (B + 4 * i_7 + 147)) (nI_addc (by omega)) ?_
                refine rs_ld X h B (4 * i_7 + 147) (congrArg nI (by omega)) (by omega) dX8_refusedWith_105 ?_
                refine lv_as (y := r (4 * i_7 + 147)) (congrFun hrow _) ?_
                refine lv_goto (tgt := 111) hx hb dX8_refusedWith_106 (by decide) ?_
                refine lv_as (y := itr (fun i a => if (r (4 * i + 144) = x ∧ r (4 * i + 145) = g ∧ r (4 * i + 146) = k) ∧ a < r (4 * i + 147) then r (4 * i + 147) else a) (-5) (i_7 + 1)) (by show _ = ite _ _ _; rw [if_pos ⟨⟨by assumption, by assumption, by assumption⟩, Int32.not_le.mp (by assumption)⟩]) ?_
                refine lv_istore (lv' := [(5, .int (itr (fun i a => if (r (4 * i + 144) = x ∧ r (4 * i + 145) = g ∧ r (4 * i + 146) = k) ∧ a < r (4 * i + 147) then r (4 * i + 147) else a) (-5) (i_7 + 1))), (8, .int (nI 1)), (7, .int (nI (B + 4 * i_7 + 144))), (0, .ref (ad 210)), (1, .int (nI B)), (2, .int x), (3, .int g), (4, .int k), (6, .int (nI i_7))]) hx hb dX8_refusedWith_111 hl (by decide) rfl (fun ls hl => ?_)
                refine lv_iinc (v := nI (i_7 + 1)) (lv' := [(6, .int (nI (i_7 + 1))), (5, .int (itr (fun i a => if (r (4 * i + 144) = x ∧ r (4 * i + 145) = g ∧ r (4 * i + 146) = k) ∧ a < r (4 * i + 147) then r (4 * i + 147) else a) (-5) (i_7 + 1))), (8, .int (nI 1)), (7, .int (nI (B + 4 * i_7 + 144))), (0, .ref (ad 210)), (1, .int (nI B)), (2, .int x), (3, .int g), (4, .int k)]) hx hb dX8_refusedWith_113 hl (k := 8) rfl (nI_addc (b := 1) (by omega)) (by decide) rfl (fun ls hl => ?_)
                refine lv_goto (tgt := 7) hx hb dX8_refusedWith_116 (by decide) ?_
                exact ih_7 (i_7 + 1) (by omega) (by omega) _ _ _ h (lv_sub hl [4, 5, 6, 7, 8, 1, 0] rfl)
  exact LP_7 (on r + 1) 0 (by omega) (by omega) _ _ _ h (lv_sub hl [2, 3, 4, 5, 6, 1, 0] rfl)
end
section

/-- a petition has passed -/
noncomputable def psr (r : Nat → Int32) (q : Nat) (v : Int32) : Nat → Int32 := upd (upd (upd (upd r (60 * (pc r q) + 3 * (pg r q) + 192) (if pk r q = 2 then (-5) else nI (pk r q))) (60 * (pc r q) + 3 * (pg r q) + 193) v) (60 * (pc r q) + 3 * (pg r q) + 194) (r 3)) 10 (r 10 + b2 (pk r q = 2))
set_option maxHeartbeats 4000000 in
set_option maxRecDepth 100000 in
theorem c_X8_refusal (l : Launch) (J : JJ) (z : Nat) (ad : Nat → Nat) (G : GG) (r : Nat → Int32) (B : Nat) (hB : B ≤ 4284) (hrow : rwS (G 211) B = r) (hW : WR r) (q : Nat) (hq : q < mn r) (v : Int32) : MI l J z ad yX8_refusal cX8_refusal 11 .int 2 [.ref (ad 210), .int (nI B), .int (nI q), .int v] G (fun ans uG => ans = refu r q v ∧ uG = G) := by
  refine MI.go (by decide) (Nat.le_of_ble_eq_true rfl) ?_
  intro pr e s m args below meth c ls Q X h hl hret
  have hx := X.1
  have hb := X.2.1
  have hown := X.2.2.2.1
  have hts := X.2.2.2.2
  have hl : lv_has ls 11 [(0, .ref (ad 210)), (1, .int (nI B)), (2, .int (nI q)), (3, .int v)] := hl
  have hW0 := hW
  obtain ⟨⟨w1, w2⟩, ⟨w3, w4⟩, ⟨w5, w6⟩, w7, w8⟩ := hW
  obtain ⟨v1, v2, v3, v4, v5, v6, v7, v8⟩ := w7 q hq
  refine lv_iload_n hx hb dX8_refusal_0 rfl (lv_at hl 1 rfl) ?_
  refine lv_iload_n hx hb dX8_refusal_1 rfl (lv_at hl 2 rfl) ?_
  refine rg_cisd (As := [.int (nI B), .int (nI q)]) (rest := []) X hl.1 h (c_X8_petitionAt l J z ad G B q) mw_261 mw_262 mw_5 mw_263 pdX8_petitionAt ⟨Nat.le_of_ble_eq_true rfl, Nat.le_of_ble_eq_true rfl⟩ ⟨Nat.le_of_ble_eq_true rfl, Nat.le_of_ble_eq_true rfl⟩ rfl (Nat.le_of_ble_eq_true rfl) dX8_refusal_2 (fun H locs h => ?_)
  refine lv_as (y := nI (B + 5 * q + 84)) (congrArg nI (by omega)) ?_
  refine lv_istore (lv' := [(4, .int (nI (B + 5 * q + 84))), (0, .ref (ad 210)), (1, .int (nI B)), (2, .int (nI q)), (3, .int v)]) hx hb dX8_refusal_5 hl (by decide) rfl (fun ls hl => ?_)
  refine lv_aload_n hx hb dX8_refusal_7 rfl (lv_at hl 1 rfl) ?_
  refine fg_X8_7 X h dX8_refusal_8 ?_
  refine lv_iload hx hb dX8_refusal_11 (lv_at hl 0 rfl) ?_
  refine lv_iconst (v := nI 1) hx hb dX8_refusal_13 (by decide) ?_
  refine lv_iadd hx hb dX8_refusal_14 ?_
  refine lv_as (y := nI (B + 5 * q + 85)) (nI_addc (by omega)) ?_
  refine rs_ld X h B (5 * q + 85) (congrArg nI (by omega)) (by omega) dX8_refusal_15 ?_
  refine lv_as (y := nI ((pc r q))) ((congrFun hrow _).trans (v3)) ?_
  refine lv_istore (lv' := [(5, .int (nI ((pc r q)))), (4, .int (nI (B + 5 * q + 84))), (0, .ref (ad 210)), (1, .int (nI B)), (2, .int (nI q)), (3, .int v)]) hx hb dX8_refusal_16 hl (by decide) rfl (fun ls hl => ?_)
  refine lv_aload_n hx hb dX8_refusal_18 rfl (lv_at hl 2 rfl) ?_
  refine fg_X8_7 X h dX8_refusal_19 ?_
  refine lv_iload hx hb dX8_refusal_22 (lv_at hl 1 rfl) ?_
  refine lv_iconst (v := nI 2) hx hb dX8_refusal_24 (by decide) ?_
  refine lv_iadd hx hb dX8_refusal_25 ?_
  refine lv_as (y := nI (B + 5 * q + 86)) (nI_addc (by omega)) ?_
  refine rs_ld X h B (5 * q + 86) (congrArg nI (by omega)) (by omega) dX8_refusal_26 ?_
  refine lv_as (y := nI ((pg r q))) ((congrFun hrow _).trans (v5)) ?_
  refine lv_istore (lv' := [(6, .int (nI ((pg r q)))), (5, .int (nI ((pc r q)))), (4, .int (nI (B + 5 * q + 84))), (0, .ref (ad 210)), (1, .int (nI B)), (2, .int (nI q)), (3, .int v)]) hx hb dX8_refusal_27 hl (by decide) rfl (fun ls hl => ?_)
  refine lv_aload_n hx hb dX8_refusal_29 rfl (lv_at hl 3 rfl) ?_
  refine fg_X8_7 X h dX8_refusal_30 ?_
  refine lv_iload hx hb dX8_refusal_33 (lv_at hl 2 rfl) ?_
  refine lv_iconst (v := nI 3) hx hb dX8_refusal_35 (by decide) ?_
  refine lv_iadd hx hb dX8_refusal_36 ?_
  refine lv_as (y := nI (B + 5 * q + 87)) (nI_addc (by omega)) ?_
  refine rs_ld X h B (5 * q + 87) (congrArg nI (by omega)) (by omega) dX8_refusal_37 ?_
  refine lv_as (y := nI ((pk r q))) ((congrFun hrow _).trans (v7)) ?_
  refine lv_istore (lv' := [(7, .int (nI ((pk r q)))), (6, .int (nI ((pg r q)))), (5, .int (nI ((pc r q)))), (4, .int (nI (B + 5 * q + 84))), (0, .ref (ad 210)), (1, .int (nI B)), (2, .int (nI q)), (3, .int v)]) hx hb dX8_refusal_38 hl (by decide) rfl (fun ls hl => ?_)
  refine lv_iload_n hx hb dX8_refusal_40 rfl (lv_at hl 5 rfl) ?_
  refine lv_iload hx hb dX8_refusal_41 (lv_at hl 2 rfl) ?_
  refine lv_iload hx hb dX8_refusal_43 (lv_at hl 1 rfl) ?_
  refine rg_cisd (As := [.int (nI B), .int (nI ((pc r q))), .int (nI ((pg r q)))]) (rest := []) X hl.1 h (c_X8_bylawAt l J z ad G B (pc r q) (pg r q)) mw_386 mw_387 mw_5 mw_388 pdX8_bylawAt ⟨Nat.le_of_ble_eq_true rfl, Nat.le_of_ble_eq_true rfl⟩ ⟨Nat.le_of_ble_eq_true rfl, Nat.le_of_ble_eq_true rfl⟩ rfl (Nat.le_of_ble_eq_true rfl) dX8_refusal_45 (fun H locs h => ?_)
  refine lv_as (y := nI (B + 60 * (pc r q) + 3 * (pg r q) + 192)) (congrArg nI (by omega)) ?_
  refine lv_istore (lv' := [(8, .int (nI (B + 60 * (pc r q) + 3 * (pg r q) + 192))), (7, .int (nI ((pk r q)))), (6, .int (nI ((pg r q)))), (5, .int (nI ((pc r q)))), (4, .int (nI (B + 5 * q + 84))), (0, .ref (ad 210)), (1, .int (nI B)), (2, .int (nI q)), (3, .int v)]) hx hb dX8_refusal_48 hl (by decide) rfl (fun ls hl => ?_)
  refine lv_iload_n hx hb dX8_refusal_50 rfl (lv_at hl 6 rfl) ?_
  refine lv_bipush (v := nI 6) hx hb dX8_refusal_51 (by decide) ?_
  refine lv_iload hx hb dX8_refusal_53 (lv_at hl 2 rfl) ?_
  refine rg_cisd (As := [.int (nI B), .int (nI 6), .int (nI ((pg r q)))]) (rest := []) X hl.1 h (c_X8_bylawAt l J z ad G B 6 (pg r q)) mw_386 mw_387 mw_5 mw_388 pdX8_bylawAt ⟨Nat.le_of_ble_eq_true rfl, Nat.le_of_ble_eq_true rfl⟩ ⟨Nat.le_of_ble_eq_true rfl, Nat.le_of_ble_eq_true rfl⟩ rfl (Nat.le_of_ble_eq_true rfl) dX8_refusal_55 (fun H locs h => ?_)
  refine lv_as (y := nI (B + 3 * (pg r q) + 552)) (congrArg nI (by omega)) ?_
  refine lv_istore (lv' := [(9, .int (nI (B + 3 * (pg r q) + 552))), (8, .int (nI (B + 60 * (pc r q) + 3 * (pg r q) + 192))), (7, .int (nI ((pk r q)))), (6, .int (nI ((pg r q)))), (5, .int (nI ((pc r q)))), (4, .int (nI (B + 5 * q + 84))), (0, .ref (ad 210)), (1, .int (nI B)), (2, .int (nI q)), (3, .int v)]) hx hb dX8_refusal_58 hl (by decide) rfl (fun ls hl => ?_)
  refine lv_iload hx hb dX8_refusal_60 (lv_at hl 2 rfl) ?_
  refine lv_iconst (v := nI 2) hx hb dX8_refusal_62 (by decide) ?_
  refine lv_icmp_ne (tgt := 70) hx hb dX8_refusal_63 (by decide) (fun c_63 => ?_) (fun c_63 => ?_)
  · rw [nI_eq (by omega) (by omega)] at c_63
    refine lv_iconst (v := nI 0) hx hb dX8_refusal_70 (by decide) ?_
    refine lv_istore (lv' := [(10, .int (nI 0)), (9, .int (nI (B + 3 * (pg r q) + 552))), (8, .int (nI (B + 60 * (pc r q) + 3 * (pg r q) + 192))), (7, .int (nI ((pk r q)))), (6, .int (nI ((pg r q)))), (5, .int (nI ((pc r q)))), (4, .int (nI (B + 5 * q + 84))), (0, .ref (ad 210)), (1, .int (nI B)), (2, .int (nI q)), (3, .int v)]) hx hb dX8_refusal_71 hl (by decide) rfl (fun ls hl => ?_)
    refine lv_iload_n hx hb dX8_refusal_73 rfl (lv_at hl 10 rfl) ?_
    refine lv_aload_n hx hb dX8_refusal_74 rfl (lv_at hl 7 rfl) ?_
    refine fg_X8_7 X h dX8_refusal_75 ?_
    refine lv_iload_n hx hb dX8_refusal_78 rfl (lv_at hl 8 rfl) ?_
    refine lv_iconst (v := nI 0) hx hb dX8_refusal_79 (by decide) ?_
    refine lv_iadd hx hb dX8_refusal_80 ?_
    refine lv_as (y := nI B) (nI_addc (by omega)) ?_
    refine rs_ld X h B (0) (congrArg nI (by omega)) (by omega) dX8_refusal_81 ?_
    refine lv_as (y := r 0) (congrFun hrow _) ?_
    refine lv_icmp_ge (tgt := 87) hx hb dX8_refusal_82 (by decide) (fun c_82 => ?_) (fun c_82 => ?_)
    · refine lv_iload_n hx hb dX8_refusal_87 rfl (lv_at hl 10 rfl) ?_
      refine lv_aload_n hx hb dX8_refusal_88 rfl (lv_at hl 7 rfl) ?_
      refine lv_iload_n hx hb dX8_refusal_89 rfl (lv_at hl 8 rfl) ?_
      refine lv_iload hx hb dX8_refusal_90 (lv_at hl 5 rfl) ?_
      refine lv_iload hx hb dX8_refusal_92 (lv_at hl 4 rfl) ?_
      refine lv_iload hx hb dX8_refusal_94 (lv_at hl 3 rfl) ?_
      refine rg_civd (As := [.int (nI B), .int (nI ((pc r q))), .int (nI ((pg r q))), .int (nI ((pk r q)))]) (rest := [.int v]) X hl.1 h (c_X8_refusedWith l J z ad G r B hB hrow hW0 (nI ((pc r q))) (nI ((pg r q))) (nI ((pk r q)))) mw_389 mw_390 mw_391 mw_5 mw_392 pdX8_refusedWith (by decide) (xo_210 J ad _) rfl rfl ⟨Nat.le_of_ble_eq_true rfl, Nat.le_of_ble_eq_true rfl⟩ ⟨Nat.le_of_ble_eq_true rfl, Nat.le_of_ble_eq_true rfl⟩ rfl (Nat.le_of_ble_eq_true rfl) dX8_refusal_96 (fun H locs h => ?_)
      refine lv_icmp_gt (tgt := 104) hx hb dX8_refusal_99 (by decide) (fun c_99 => ?_) (fun c_99 => ?_)
      · refine lv_iload hx hb dX8_refusal_104 (lv_at hl 5 rfl) ?_
        refine lv_bipush (v := nI 6) hx hb dX8_refusal_106 (by decide) ?_
        refine lv_icmp_eq (tgt := 155) hx hb dX8_refusal_108 (by decide) (fun c_108 => ?_) (fun c_108 => ?_)
        · rw [nI_eq (by omega) (by omega)] at c_108
          refine lv_iload hx hb dX8_refusal_155 (lv_at hl 0 rfl) ?_
          refine lv_if_eq (tgt := 175) hx hb dX8_refusal_157 (by decide) (fun c_157 => ?_) (fun c_157 => absurd (by decide) c_157)
          refine lv_aload_n hx hb dX8_refusal_175 rfl (lv_at hl 7 rfl) ?_
          refine fg_X8_7 X h dX8_refusal_176 ?_
          refine lv_iload hx hb dX8_refusal_179 (lv_at hl 2 rfl) ?_
          refine rs_ld X h B (60 * (pc r q) + 3 * (pg r q) + 192) (congrArg nI (by omega)) (by omega) dX8_refusal_181 ?_
          refine lv_as (y := r (60 * (pc r q) + 3 * (pg r q) + 192)) (congrFun hrow _) ?_
          refine lv_iload hx hb dX8_refusal_182 (lv_at hl 3 rfl) ?_
          refine lv_icmp_ne (tgt := 202) hx hb dX8_refusal_184 (by decide) (fun c_184 => ?_) (fun c_184 => ?_)
          · refine lv_iload hx hb dX8_refusal_202 (lv_at hl 0 rfl) ?_
            refine lv_if_eq (tgt := 224) hx hb dX8_refusal_204 (by decide) (fun c_204 => ?_) (fun c_204 => absurd (by decide) c_204)
            refine lv_iconst (v := nI 0) hx hb dX8_refusal_224 (by decide) ?_
            exact hret (nI 0) G _ _ 225 _ (⟨by unfold refu; rw [if_neg (Int32.not_lt.mpr c_82), if_neg (Int32.not_le.mpr c_99), if_neg (fun hC => by obtain ⟨a1, a2, a3, a4, a5⟩ := hC; first | exact a1 c_108 | exact a2 c_63 | exact a3 c_125 | exact a4 c_137 | exact (Int32.not_le.mpr a5) c_150), if_neg (fun hC => by rcases hC with ⟨a1, a2⟩ | ⟨a1, a2, a3⟩ <;> first | exact c_63 a1 | exact a1 c_63 | exact c_169 a2 | exact c_184 a2 | exact absurd a3 (Int32.not_le.mpr c_197)), if_neg (fun hC => by first | exact c_63 hC.1 | exact absurd hC.2 (Int32.not_le.mpr c_217))], rfl⟩) h dX8_refusal_225
          · refine lv_aload_n hx hb dX8_refusal_187 rfl (lv_at hl 7 rfl) ?_
            refine fg_X8_7 X h dX8_refusal_188 ?_
            refine lv_iload hx hb dX8_refusal_191 (lv_at hl 2 rfl) ?_
            refine lv_iconst (v := nI 1) hx hb dX8_refusal_193 (by decide) ?_
            refine lv_iadd hx hb dX8_refusal_194 ?_
            refine lv_as (y := nI (B + 60 * (pc r q) + 3 * (pg r q) + 193)) (nI_addc (by omega)) ?_
            refine rs_ld X h B (60 * (pc r q) + 3 * (pg r q) + 193) (congrArg nI (by omega)) (by omega) dX8_refusal_195 ?_
            refine lv_as (y := r (60 * (pc r q) + 3 * (pg r q) + 193)) (congrFun hrow _) ?_
            refine lv_iload_n hx hb dX8_refusal_196 rfl (lv_at hl 10 rfl) ?_
            refine lv_icmp_lt (tgt := 202) hx hb dX8_refusal_197 (by decide) (fun c_197 => ?_) (fun c_197 => ?_)
            · refine lv_iload hx hb dX8_refusal_202 (lv_at hl 0 rfl) ?_
              refine lv_if_eq (tgt := 224) hx hb dX8_refusal_204 (by decide) (fun c_204 => ?_) (fun c_204 => absurd (by decide) c_204)
              refine lv_iconst (v := nI 0) hx hb dX8_refusal_224 (by decide) ?_
              exact hret (nI 0) G _ _ 225 _ (⟨by unfold refu; rw [if_neg (Int32.not_lt.mpr c_82), if_neg (Int32.not_le.mpr c_99), if_neg (fun hC => by obtain ⟨a1, a2, a3, a4, a5⟩ := hC; first | exact a1 c_108 | exact a2 c_63 | exact a3 c_125 | exact a4 c_137 | exact (Int32.not_le.mpr a5) c_150), if_neg (fun hC => by rcases hC with ⟨a1, a2⟩ | ⟨a1, a2, a3⟩ <;> first | exact c_63 a1 | exact a1 c_63 | exact c_169 a2 | exact c_184 a2 | exact absurd a3 (Int32.not_le.mpr c_197)), if_neg (fun hC => by first | exact c_63 hC.1 | exact absurd hC.2 (Int32.not_le.mpr c_217))], rfl⟩) h dX8_refusal_225
            · refine lv_iconst (v := nI 4) hx hb dX8_refusal_200 (by decide) ?_
              exact hret (nI 4) G _ _ 201 _ (⟨by unfold refu; rw [if_neg (Int32.not_lt.mpr c_82), if_neg (Int32.not_le.mpr c_99), if_neg (fun hC => by obtain ⟨a1, a2, a3, a4, a5⟩ := hC; first | exact a1 c_108 | exact a2 c_63 | exact a3 c_125 | exact a4 c_137 | exact (Int32.not_le.mpr a5) c_150), if_pos (Or.inr ⟨c_63, c_184, Int32.not_lt.mp c_197⟩)], rfl⟩) h dX8_refusal_201
        · rw [nI_eq (by omega) (by omega)] at c_108
          refine lv_iload hx hb dX8_refusal_111 (lv_at hl 0 rfl) ?_
          refine lv_if_ne (tgt := 155) hx hb dX8_refusal_113 (by decide) (fun c_113 => absurd (by decide) c_113) (fun c_113 => ?_)
          refine lv_aload_n hx hb dX8_refusal_116 rfl (lv_at hl 7 rfl) ?_
          refine fg_X8_7 X h dX8_refusal_117 ?_
          refine lv_iload hx hb dX8_refusal_120 (lv_at hl 1 rfl) ?_
          refine rs_ld X h B (3 * (pg r q) + 552) (congrArg nI (by omega)) (by omega) dX8_refusal_122 ?_
          refine lv_as (y := r (3 * (pg r q) + 552)) (congrFun hrow _) ?_
          refine lv_bipush (v := (-5)) hx hb dX8_refusal_123 (by decide) ?_
          refine lv_icmp_eq (tgt := 155) hx hb dX8_refusal_125 (by decide) (fun c_125 => ?_) (fun c_125 => ?_)
          · refine lv_iload hx hb dX8_refusal_155 (lv_at hl 0 rfl) ?_
            refine lv_if_eq (tgt := 175) hx hb dX8_refusal_157 (by decide) (fun c_157 => ?_) (fun c_157 => absurd (by decide) c_157)
            refine lv_aload_n hx hb dX8_refusal_175 rfl (lv_at hl 7 rfl) ?_
            refine fg_X8_7 X h dX8_refusal_176 ?_
            refine lv_iload hx hb dX8_refusal_179 (lv_at hl 2 rfl) ?_
            refine rs_ld X h B (60 * (pc r q) + 3 * (pg r q) + 192) (congrArg nI (by omega)) (by omega) dX8_refusal_181 ?_
            refine lv_as (y := r (60 * (pc r q) + 3 * (pg r q) + 192)) (congrFun hrow _) ?_
            refine lv_iload hx hb dX8_refusal_182 (lv_at hl 3 rfl) ?_
            refine lv_icmp_ne (tgt := 202) hx hb dX8_refusal_184 (by decide) (fun c_184 => ?_) (fun c_184 => ?_)
            · refine lv_iload hx hb dX8_refusal_202 (lv_at hl 0 rfl) ?_
              refine lv_if_eq (tgt := 224) hx hb dX8_refusal_204 (by decide) (fun c_204 => ?_) (fun c_204 => absurd (by decide) c_204)
              refine lv_iconst (v := nI 0) hx hb dX8_refusal_224 (by decide) ?_
              exact hret (nI 0) G _ _ 225 _ (⟨by unfold refu; rw [if_neg (Int32.not_lt.mpr c_82), if_neg (Int32.not_le.mpr c_99), if_neg (fun hC => by obtain ⟨a1, a2, a3, a4, a5⟩ := hC; first | exact a1 c_108 | exact a2 c_63 | exact a3 c_125 | exact a4 c_137 | exact (Int32.not_le.mpr a5) c_150), if_neg (fun hC => by rcases hC with ⟨a1, a2⟩ | ⟨a1, a2, a3⟩ <;> first | exact c_63 a1 | exact a1 c_63 | exact c_169 a2 | exact c_184 a2 | exact absurd a3 (Int32.not_le.mpr c_197)), if_neg (fun hC => by first | exact c_63 hC.1 | exact absurd hC.2 (Int32.not_le.mpr c_217))], rfl⟩) h dX8_refusal_225
            · refine lv_aload_n hx hb dX8_refusal_187 rfl (lv_at hl 7 rfl) ?_
              refine fg_X8_7 X h dX8_refusal_188 ?_
              refine lv_iload hx hb dX8_refusal_191 (lv_at hl 2 rfl) ?_
              refine lv_iconst (v := nI 1) hx hb dX8_refusal_193 (by decide) ?_
              refine lv_iadd hx hb dX8_refusal_194 ?_
              refine lv_as (y := nI (B + 60 * (pc r q) + 3 * (pg r q) + 193)) (nI_addc (by omega)) ?_
              refine rs_ld X h B (60 * (pc r q) + 3 * (pg r q) + 193) (congrArg nI (by omega)) (by omega) dX8_refusal_195 ?_
              refine lv_as (y := r (60 * (pc r q) + 3 * (pg r q) + 193)) (congrFun hrow _) ?_
              refine lv_iload_n hx hb dX8_refusal_196 rfl (lv_at hl 10 rfl) ?_
              refine lv_icmp_lt (tgt := 202) hx hb dX8_refusal_197 (by decide) (fun c_197 => ?_) (fun c_197 => ?_)
              · refine lv_iload hx hb dX8_refusal_202 (lv_at hl 0 rfl) ?_
                refine lv_if_eq (tgt := 224) hx hb dX8_refusal_204 (by decide) (fun c_204 => ?_) (fun c_204 => absurd (by decide) c_204)
                refine lv_iconst (v := nI 0) hx hb dX8_refusal_224 (by decide) ?_
                exact hret (nI 0) G _ _ 225 _ (⟨by unfold refu; rw [if_neg (Int32.not_lt.mpr c_82), if_neg (Int32.not_le.mpr c_99), if_neg (fun hC => by obtain ⟨a1, a2, a3, a4, a5⟩ := hC; first | exact a1 c_108 | exact a2 c_63 | exact a3 c_125 | exact a4 c_137 | exact (Int32.not_le.mpr a5) c_150), if_neg (fun hC => by rcases hC with ⟨a1, a2⟩ | ⟨a1, a2, a3⟩ <;> first | exact c_63 a1 | exact a1 c_63 | exact c_169 a2 | exact c_184 a2 | exact absurd a3 (Int32.not_le.mpr c_197)), if_neg (fun hC => by first | exact c_63 hC.1 | exact absurd hC.2 (Int32.not_le.mpr c_217))], rfl⟩) h dX8_refusal_225
              · refine lv_iconst (v := nI 4) hx hb dX8_refusal_200 (by decide) ?_
                exact hret (nI 4) G _ _ 201 _ (⟨by unfold refu; rw [if_neg (Int32.not_lt.mpr c_82), if_neg (Int32.not_le.mpr c_99), if_neg (fun hC => by obtain ⟨a1, a2, a3, a4, a5⟩ := hC; first | exact a1 c_108 | exact a2 c_63 | exact a3 c_125 | exact a4 c_137 | exact (Int32.not_le.mpr a5) c_150), if_pos (Or.inr ⟨c_63, c_184, Int32.not_lt.mp c_197⟩)], rfl⟩) h dX8_refusal_201
          · refine lv_aload_n hx hb dX8_refusal_128 rfl (lv_at hl 7 rfl) ?_
            refine fg_X8_7 X h dX8_refusal_129 ?_
            refine lv_iload hx hb dX8_refusal_132 (lv_at hl 1 rfl) ?_
            refine rs_ld X h B (3 * (pg r q) + 552) (congrArg nI (by omega)) (by omega) dX8_refusal_134 ?_
            refine lv_as (y := r (3 * (pg r q) + 552)) (congrFun hrow _) ?_
            refine lv_iload hx hb dX8_refusal_135 (lv_at hl 3 rfl) ?_
            refine lv_icmp_eq (tgt := 155) hx hb dX8_refusal_137 (by decide) (fun c_137 => ?_) (fun c_137 => ?_)
            · refine lv_iload hx hb dX8_refusal_155 (lv_at hl 0 rfl) ?_
              refine lv_if_eq (tgt := 175) hx hb dX8_refusal_157 (by decide) (fun c_157 => ?_) (fun c_157 => absurd (by decide) c_157)
              refine lv_aload_n hx hb dX8_refusal_175 rfl (lv_at hl 7 rfl) ?_
              refine fg_X8_7 X h dX8_refusal_176 ?_
              refine lv_iload hx hb dX8_refusal_179 (lv_at hl 2 rfl) ?_
              refine rs_ld X h B (60 * (pc r q) + 3 * (pg r q) + 192) (congrArg nI (by omega)) (by omega) dX8_refusal_181 ?_
              refine lv_as (y := r (60 * (pc r q) + 3 * (pg r q) + 192)) (congrFun hrow _) ?_
              refine lv_iload hx hb dX8_refusal_182 (lv_at hl 3 rfl) ?_
              refine lv_icmp_ne (tgt := 202) hx hb dX8_refusal_184 (by decide) (fun c_184 => ?_) (fun c_184 => ?_)
              · refine lv_iload hx hb dX8_refusal_202 (lv_at hl 0 rfl) ?_
                refine lv_if_eq (tgt := 224) hx hb dX8_refusal_204 (by decide) (fun c_204 => ?_) (fun c_204 => absurd (by decide) c_204)
                refine lv_iconst (v := nI 0) hx hb dX8_refusal_224 (by decide) ?_
                exact hret (nI 0) G _ _ 225 _ (⟨by unfold refu; rw [if_neg (Int32.not_lt.mpr c_82), if_neg (Int32.not_le.mpr c_99), if_neg (fun hC => by obtain ⟨a1, a2, a3, a4, a5⟩ := hC; first | exact a1 c_108 | exact a2 c_63 | exact a3 c_125 | exact a4 c_137 | exact (Int32.not_le.mpr a5) c_150), if_neg (fun hC => by rcases hC with ⟨a1, a2⟩ | ⟨a1, a2, a3⟩ <;> first | exact c_63 a1 | exact a1 c_63 | exact c_169 a2 | exact c_184 a2 | exact absurd a3 (Int32.not_le.mpr c_197)), if_neg (fun hC => by first | exact c_63 hC.1 | exact absurd hC.2 (Int32.not_le.mpr c_217))], rfl⟩) h dX8_refusal_225
              · refine lv_aload_n hx hb dX8_refusal_187 rfl (lv_at hl 7 rfl) ?_
                refine fg_X8_7 X h dX8_refusal_188 ?_
                refine lv_iload hx hb dX8_refusal_191 (lv_at hl 2 rfl) ?_
                refine lv_iconst (v := nI 1) hx hb dX8_refusal_193 (by decide) ?_
                refine lv_iadd hx hb dX8_refusal_194 ?_
                refine lv_as (y := nI (B + 60 * (pc r q) + 3 * (pg r q) + 193)) (nI_addc (by omega)) ?_
                refine rs_ld X h B (60 * (pc r q) + 3 * (pg r q) + 193) (congrArg nI (by omega)) (by omega) dX8_refusal_195 ?_
                refine lv_as (y := r (60 * (pc r q) + 3 * (pg r q) + 193)) (congrFun hrow _) ?_
                refine lv_iload_n hx hb dX8_refusal_196 rfl (lv_at hl 10 rfl) ?_
                refine lv_icmp_lt (tgt := 202) hx hb dX8_refusal_197 (by decide) (fun c_197 => ?_) (fun c_197 => ?_)
                · refine lv_iload hx hb dX8_refusal_202 (lv_at hl 0 rfl) ?_
                  refine lv_if_eq (tgt := 224) hx hb dX8_refusal_204 (by decide) (fun c_204 => ?_) (fun c_204 => absurd (by decide) c_204)
                  refine lv_iconst (v := nI 0) hx hb dX8_refusal_224 (by decide) ?_
                  exact hret (nI 0) G _ _ 225 _ (⟨by unfold refu; rw [if_neg (Int32.not_lt.mpr c_82), if_neg (Int32.not_le.mpr c_99), if_neg (fun hC => by obtain ⟨a1, a2, a3, a4, a5⟩ := hC; first | exact a1 c_108 | exact a2 c_63 | exact a3 c_125 | exact a4 c_137 | exact (Int32.not_le.mpr a5) c_150), if_neg (fun hC => by rcases hC with ⟨a1, a2⟩ | ⟨a1, a2, a3⟩ <;> first | exact c_63 a1 | exact a1 c_63 | exact c_169 a2 | exact c_184 a2 | exact absurd a3 (Int32.not_le.mpr c_197)), if_neg (fun hC => by first | exact c_63 hC.1 | exact absurd hC.2 (Int32.not_le.mpr c_217))], rfl⟩) h dX8_refusal_225
                · refine lv_iconst (v := nI 4) hx hb dX8_refusal_200 (by decide) ?_
                  exact hret (nI 4) G _ _ 201 _ (⟨by unfold refu; rw [if_neg (Int32.not_lt.mpr c_82), if_neg (Int32.not_le.mpr c_99), if_neg (fun hC => by obtain ⟨a1, a2, a3, a4, a5⟩ := hC; first | exact a1 c_108 | exact a2 c_63 | exact a3 c_125 | exact a4 c_137 | exact (Int32.not_le.mpr a5) c_150), if_pos (Or.inr ⟨c_63, c_184, Int32.not_lt.mp c_197⟩)], rfl⟩) h dX8_refusal_201
            · refine lv_aload_n hx hb dX8_refusal_140 rfl (lv_at hl 7 rfl) ?_
              refine fg_X8_7 X h dX8_refusal_141 ?_
              refine lv_iload hx hb dX8_refusal_144 (lv_at hl 1 rfl) ?_
              refine lv_iconst (v := nI 1) hx hb dX8_refusal_146 (by decide) ?_
              refine lv_iadd hx hb dX8_refusal_147 ?_
              refine lv_as (y := nI (B + 3 * (pg r q) + 553)) (nI_addc (by omega)) ?_
              refine rs_ld X h B (3 * (pg r q) + 553) (congrArg nI (by omega)) (by omega) dX8_refusal_148 ?_
              refine lv_as (y := r (3 * (pg r q) + 553)) (congrFun hrow _) ?_
              refine lv_iload_n hx hb dX8_refusal_149 rfl (lv_at hl 10 rfl) ?_
              refine lv_icmp_le (tgt := 155) hx hb dX8_refusal_150 (by decide) (fun c_150 => ?_) (fun c_150 => ?_)
              · refine lv_iload hx hb dX8_refusal_155 (lv_at hl 0 rfl) ?_
                refine lv_if_eq (tgt := 175) hx hb dX8_refusal_157 (by decide) (fun c_157 => ?_) (fun c_157 => absurd (by decide) c_157)
                refine lv_aload_n hx hb dX8_refusal_175 rfl (lv_at hl 7 rfl) ?_
                refine fg_X8_7 X h dX8_refusal_176 ?_
                refine lv_iload hx hb dX8_refusal_179 (lv_at hl 2 rfl) ?_
                refine rs_ld X h B (60 * (pc r q) + 3 * (pg r q) + 192) (congrArg nI (by omega)) (by omega) dX8_refusal_181 ?_
                refine lv_as (y := r (60 * (pc r q) + 3 * (pg r q) + 192)) (congrFun hrow _) ?_
                refine lv_iload hx hb dX8_refusal_182 (lv_at hl 3 rfl) ?_
                refine lv_icmp_ne (tgt := 202) hx hb dX8_refusal_184 (by decide) (fun c_184 => ?_) (fun c_184 => ?_)
                · refine lv_iload hx hb dX8_refusal_202 (lv_at hl 0 rfl) ?_
                  refine lv_if_eq (tgt := 224) hx hb dX8_refusal_204 (by decide) (fun c_204 => ?_) (fun c_204 => absurd (by decide) c_204)
                  refine lv_iconst (v := nI 0) hx hb dX8_refusal_224 (by decide) ?_
                  exact hret (nI 0) G _ _ 225 _ (⟨by unfold refu; rw [if_neg (Int32.not_lt.mpr c_82), if_neg (Int32.not_le.mpr c_99), if_neg (fun hC => by obtain ⟨a1, a2, a3, a4, a5⟩ := hC; first | exact a1 c_108 | exact a2 c_63 | exact a3 c_125 | exact a4 c_137 | exact (Int32.not_le.mpr a5) c_150), if_neg (fun hC => by rcases hC with ⟨a1, a2⟩ | ⟨a1, a2, a3⟩ <;> first | exact c_63 a1 | exact a1 c_63 | exact c_169 a2 | exact c_184 a2 | exact absurd a3 (Int32.not_le.mpr c_197)), if_neg (fun hC => by first | exact c_63 hC.1 | exact absurd hC.2 (Int32.not_le.mpr c_217))], rfl⟩) h dX8_refusal_225
                · refine lv_aload_n hx hb dX8_refusal_187 rfl (lv_at hl 7 rfl) ?_
                  refine fg_X8_7 X h dX8_refusal_188 ?_
                  refine lv_iload hx hb dX8_refusal_191 (lv_at hl 2 rfl) ?_
                  refine lv_iconst (v := nI 1) hx hb dX8_refusal_193 (by decide) ?_
                  refine lv_iadd hx hb dX8_refusal_194 ?_
                  refine lv_as (y := nI (B + 60 * (pc r q) + 3 * (pg r q) + 193)) (nI_addc (by omega)) ?_
                  refine rs_ld X h B (60 * (pc r q) + 3 * (pg r q) + 193) (congrArg nI (by omega)) (by omega) dX8_refusal_195 ?_
                  refine lv_as (y := r (60 * (pc r q) + 3 * (pg r q) + 193)) (congrFun hrow _) ?_
                  refine lv_iload_n hx hb dX8_refusal_196 rfl (lv_at hl 10 rfl) ?_
                  refine lv_icmp_lt (tgt := 202) hx hb dX8_refusal_197 (by decide) (fun c_197 => ?_) (fun c_197 => ?_)
                  · refine lv_iload hx hb dX8_refusal_202 (lv_at hl 0 rfl) ?_
                    refine lv_if_eq (tgt := 224) hx hb dX8_refusal_204 (by decide) (fun c_204 => ?_) (fun c_204 => absurd (by decide) c_204)
                    refine lv_iconst (v := nI 0) hx hb dX8_refusal_224 (by decide) ?_
                    exact hret (nI 0) G _ _ 225 _ (⟨by unfold refu; rw [if_neg (Int32.not_lt.mpr c_82), if_neg (Int32.not_le.mpr c_99), if_neg (fun hC => by obtain ⟨a1, a2, a3, a4, a5⟩ := hC; first | exact a1 c_108 | exact a2 c_63 | exact a3 c_125 | exact a4 c_137 | exact (Int32.not_le.mpr a5) c_150), if_neg (fun hC => by rcases hC with ⟨a1, a2⟩ | ⟨a1, a2, a3⟩ <;> first | exact c_63 a1 | exact a1 c_63 | exact c_169 a2 | exact c_184 a2 | exact absurd a3 (Int32.not_le.mpr c_197)), if_neg (fun hC => by first | exact c_63 hC.1 | exact absurd hC.2 (Int32.not_le.mpr c_217))], rfl⟩) h dX8_refusal_225
                  · refine lv_iconst (v := nI 4) hx hb dX8_refusal_200 (by decide) ?_
                    exact hret (nI 4) G _ _ 201 _ (⟨by unfold refu; rw [if_neg (Int32.not_lt.mpr c_82), if_neg (Int32.not_le.mpr c_99), if_neg (fun hC => by obtain ⟨a1, a2, a3, a4, a5⟩ := hC; first | exact a1 c_108 | exact a2 c_63 | exact a3 c_125 | exact a4 c_137 | exact (Int32.not_le.mpr a5) c_150), if_pos (Or.inr ⟨c_63, c_184, Int32.not_lt.mp c_197⟩)], rfl⟩) h dX8_refusal_201
              · refine lv_iconst (v := nI 3) hx hb dX8_refusal_153 (by decide) ?_
                exact hret (nI 3) G _ _ 154 _ (⟨by unfold refu; rw [if_neg (Int32.not_lt.mpr c_82), if_neg (Int32.not_le.mpr c_99), if_pos ⟨c_108, c_63, c_125, c_137, Int32.not_le.mp c_150⟩], rfl⟩) h dX8_refusal_154
      · refine lv_iconst (v := nI 2) hx hb dX8_refusal_102 (by decide) ?_
        exact hret (nI 2) G _ _ 103 _ (⟨by unfold refu; rw [if_neg (Int32.not_lt.mpr c_82), if_pos (Int32.not_lt.mp c_99)], rfl⟩) h dX8_refusal_103
    · refine lv_iconst (v := nI 1) hx hb dX8_refusal_85 (by decide) ?_
      exact hret (nI 1) G _ _ 86 _ (⟨by unfold refu; rw [if_pos (Int32.not_le.mp c_82)], rfl⟩) h dX8_refusal_86
  · rw [nI_eq (by omega) (by omega)] at c_63
    refine lv_iconst (v := nI 1) hx hb dX8_refusal_66 (by decide) ?_
    refine lv_goto (tgt := 71) hx hb dX8_refusal_67 (by decide) ?_
    refine lv_istore (lv' := [(10, .int (nI 1)), (9, .int (nI (B + 3 * (pg r q) + 552))), (8, .int (nI (B + 60 * (pc r q) + 3 * (pg r q) + 192))), (7, .int (nI ((pk r q)))), (6, .int (nI ((pg r q)))), (5, .int (nI ((pc r q)))), (4, .int (nI (B + 5 * q + 84))), (0, .ref (ad 210)), (1, .int (nI B)), (2, .int (nI q)), (3, .int v)]) hx hb dX8_refusal_71 hl (by decide) rfl (fun ls hl => ?_)
    refine lv_iload_n hx hb dX8_refusal_73 rfl (lv_at hl 10 rfl) ?_
    refine lv_aload_n hx hb dX8_refusal_74 rfl (lv_at hl 7 rfl) ?_
    refine fg_X8_7 X h dX8_refusal_75 ?_
    refine lv_iload_n hx hb dX8_refusal_78 rfl (lv_at hl 8 rfl) ?_
    refine lv_iconst (v := nI 0) hx hb dX8_refusal_79 (by decide) ?_
    refine lv_iadd hx hb dX8_refusal_80 ?_
    refine lv_as (y := nI B) (nI_addc (by omega)) ?_
    refine rs_ld X h B (0) (congrArg nI (by omega)) (by omega) dX8_refusal_81 ?_
    refine lv_as (y := r 0) (congrFun hrow _) ?_
    refine lv_icmp_ge (tgt := 87) hx hb dX8_refusal_82 (by decide) (fun c_82 => ?_) (fun c_82 => ?_)
    · refine lv_iload_n hx hb dX8_refusal_87 rfl (lv_at hl 10 rfl) ?_
      refine lv_aload_n hx hb dX8_refusal_88 rfl (lv_at hl 7 rfl) ?_
      refine lv_iload_n hx hb dX8_refusal_89 rfl (lv_at hl 8 rfl) ?_
      refine lv_iload hx hb dX8_refusal_90 (lv_at hl 5 rfl) ?_
      refine lv_iload hx hb dX8_refusal_92 (lv_at hl 4 rfl) ?_
      refine lv_iload hx hb dX8_refusal_94 (lv_at hl 3 rfl) ?_
      refine rg_civd (As := [.int (nI B), .int (nI ((pc r q))), .int (nI ((pg r q))), .int (nI ((pk r q)))]) (rest := [.int v]) X hl.1 h (c_X8_refusedWith l J z ad G r B hB hrow hW0 (nI ((pc r q))) (nI ((pg r q))) (nI ((pk r q)))) mw_389 mw_390 mw_391 mw_5 mw_392 pdX8_refusedWith (by decide) (xo_210 J ad _) rfl rfl ⟨Nat.le_of_ble_eq_true rfl, Nat.le_of_ble_eq_true rfl⟩ ⟨Nat.le_of_ble_eq_true rfl, Nat.le_of_ble_eq_true rfl⟩ rfl (Nat.le_of_ble_eq_true rfl) dX8_refusal_96 (fun H locs h => ?_)
      refine lv_icmp_gt (tgt := 104) hx hb dX8_refusal_99 (by decide) (fun c_99 => ?_) (fun c_99 => ?_)
      · refine lv_iload hx hb dX8_refusal_104 (lv_at hl 5 rfl) ?_
        refine lv_bipush (v := nI 6) hx hb dX8_refusal_106 (by decide) ?_
        refine lv_icmp_eq (tgt := 155) hx hb dX8_refusal_108 (by decide) (fun c_108 => ?_) (fun c_108 => ?_)
        · rw [nI_eq (by omega) (by omega)] at c_108
          refine lv_iload hx hb dX8_refusal_155 (lv_at hl 0 rfl) ?_
          refine lv_if_eq (tgt := 175) hx hb dX8_refusal_157 (by decide) (fun c_157 => absurd c_157 (by decide)) (fun c_157 => ?_)
          refine lv_aload_n hx hb dX8_refusal_160 rfl (lv_at hl 7 rfl) ?_
          refine fg_X8_7 X h dX8_refusal_161 ?_
          refine lv_iload hx hb dX8_refusal_164 (lv_at hl 2 rfl) ?_
          refine rs_ld X h B (60 * (pc r q) + 3 * (pg r q) + 192) (congrArg nI (by omega)) (by omega) dX8_refusal_166 ?_
          refine lv_as (y := r (60 * (pc r q) + 3 * (pg r q) + 192)) (congrFun hrow _) ?_
          refine lv_bipush (v := (-5)) hx hb dX8_refusal_167 (by decide) ?_
          refine lv_icmp_ne (tgt := 202) hx hb dX8_refusal_169 (by decide) (fun c_169 => ?_) (fun c_169 => ?_)
          · refine lv_iload hx hb dX8_refusal_202 (lv_at hl 0 rfl) ?_
            refine lv_if_eq (tgt := 224) hx hb dX8_refusal_204 (by decide) (fun c_204 => absurd c_204 (by decide)) (fun c_204 => ?_)
            refine lv_iconst (v := nI 2) hx hb dX8_refusal_207 (by decide) ?_
            refine lv_iload_n hx hb dX8_refusal_208 rfl (lv_at hl 10 rfl) ?_
            refine lv_imul hx hb dX8_refusal_209 ?_
            refine lv_aload_n hx hb dX8_refusal_210 rfl (lv_at hl 7 rfl) ?_
            refine lv_iload_n hx hb dX8_refusal_211 rfl (lv_at hl 8 rfl) ?_
            refine lv_iload hx hb dX8_refusal_212 (lv_at hl 5 rfl) ?_
            refine rg_civd (As := [.int (nI B), .int (nI ((pc r q)))]) (rest := [.int ((nI 2) * v)]) X hl.1 h (c_X8_weightAt l J z ad G r B hB hrow hW0 (nI ((pc r q)))) mw_393 mw_394 mw_395 mw_5 mw_396 pdX8_weightAt (by decide) (xo_210 J ad _) rfl rfl ⟨Nat.le_of_ble_eq_true rfl, Nat.le_of_ble_eq_true rfl⟩ ⟨Nat.le_of_ble_eq_true rfl, Nat.le_of_ble_eq_true rfl⟩ rfl (Nat.le_of_ble_eq_true rfl) dX8_refusal_214 (fun H locs h => ?_)
            refine lv_icmp_gt (tgt := 224) hx hb dX8_refusal_217 (by decide) (fun c_217 => ?_) (fun c_217 => ?_)
            · refine lv_iconst (v := nI 0) hx hb dX8_refusal_224 (by decide) ?_
              exact hret (nI 0) G _ _ 225 _ (⟨by unfold refu; rw [if_neg (Int32.not_lt.mpr c_82), if_neg (Int32.not_le.mpr c_99), if_neg (fun hC => by obtain ⟨a1, a2, a3, a4, a5⟩ := hC; first | exact a1 c_108 | exact a2 c_63 | exact a3 c_125 | exact a4 c_137 | exact (Int32.not_le.mpr a5) c_150), if_neg (fun hC => by rcases hC with ⟨a1, a2⟩ | ⟨a1, a2, a3⟩ <;> first | exact c_63 a1 | exact a1 c_63 | exact c_169 a2 | exact c_184 a2 | exact absurd a3 (Int32.not_le.mpr c_197)), if_neg (fun hC => by first | exact c_63 hC.1 | exact absurd hC.2 (Int32.not_le.mpr c_217))], rfl⟩) h dX8_refusal_225
            · refine lv_iconst (v := nI 5) hx hb dX8_refusal_220 (by decide) ?_
              refine lv_goto (tgt := 225) hx hb dX8_refusal_221 (by decide) ?_
              exact hret (nI 5) G _ _ 225 _ (⟨by unfold refu; rw [if_neg (Int32.not_lt.mpr c_82), if_neg (Int32.not_le.mpr c_99), if_neg (fun hC => by obtain ⟨a1, a2, a3, a4, a5⟩ := hC; first | exact a1 c_108 | exact a2 c_63 | exact a3 c_125 | exact a4 c_137 | exact (Int32.not_le.mpr a5) c_150), if_neg (fun hC => by rcases hC with ⟨a1, a2⟩ | ⟨a1, a2, a3⟩ <;> first | exact c_63 a1 | exact a1 c_63 | exact c_169 a2 | exact c_184 a2 | exact absurd a3 (Int32.not_le.mpr c_197)), if_pos ⟨c_63, Int32.not_lt.mp c_217⟩], rfl⟩) h dX8_refusal_225
          · refine lv_goto (tgt := 200) hx hb dX8_refusal_172 (by decide) ?_
            refine lv_iconst (v := nI 4) hx hb dX8_refusal_200 (by decide) ?_
            exact hret (nI 4) G _ _ 201 _ (⟨by unfold refu; rw [if_neg (Int32.not_lt.mpr c_82), if_neg (Int32.not_le.mpr c_99), if_neg (fun hC => by obtain ⟨a1, a2, a3, a4, a5⟩ := hC; first | exact a1 c_108 | exact a2 c_63 | exact a3 c_125 | exact a4 c_137 | exact (Int32.not_le.mpr a5) c_150), if_pos (Or.inl ⟨c_63, c_169⟩)], rfl⟩) h dX8_refusal_201
        · rw [nI_eq (by omega) (by omega)] at c_108
          refine lv_iload hx hb dX8_refusal_111 (lv_at hl 0 rfl) ?_
          refine lv_if_ne (tgt := 155) hx hb dX8_refusal_113 (by decide) (fun c_113 => ?_) (fun c_113 => absurd c_113 (by decide))
          refine lv_iload hx hb dX8_refusal_155 (lv_at hl 0 rfl) ?_
          refine lv_if_eq (tgt := 175) hx hb dX8_refusal_157 (by decide) (fun c_157 => absurd c_157 (by decide)) (fun c_157 => ?_)
          refine lv_aload_n hx hb dX8_refusal_160 rfl (lv_at hl 7 rfl) ?_
          refine fg_X8_7 X h dX8_refusal_161 ?_
          refine lv_iload hx hb dX8_refusal_164 (lv_at hl 2 rfl) ?_
          refine rs_ld X h B (60 * (pc r q) + 3 * (pg r q) + 192) (congrArg nI (by omega)) (by omega) dX8_refusal_166 ?_
          refine lv_as (y := r (60 * (pc r q) + 3 * (pg r q) + 192)) (congrFun hrow _) ?_
          refine lv_bipush (v := (-5)) hx hb dX8_refusal_167 (by decide) ?_
          refine lv_icmp_ne (tgt := 202) hx hb dX8_refusal_169 (by decide) (fun c_169 => ?_) (fun c_169 => ?_)
          · refine lv_iload hx hb dX8_refusal_202 (lv_at hl 0 rfl) ?_
            refine lv_if_eq (tgt := 224) hx hb dX8_refusal_204 (by decide) (fun c_204 => absurd c_204 (by decide)) (fun c_204 => ?_)
            refine lv_iconst (v := nI 2) hx hb dX8_refusal_207 (by decide) ?_
            refine lv_iload_n hx hb dX8_refusal_208 rfl (lv_at hl 10 rfl) ?_
            refine lv_imul hx hb dX8_refusal_209 ?_
            refine lv_aload_n hx hb dX8_refusal_210 rfl (lv_at hl 7 rfl) ?_
            refine lv_iload_n hx hb dX8_refusal_211 rfl (lv_at hl 8 rfl) ?_
            refine lv_iload hx hb dX8_refusal_212 (lv_at hl 5 rfl) ?_
            refine rg_civd (As := [.int (nI B), .int (nI ((pc r q)))]) (rest := [.int ((nI 2) * v)]) X hl.1 h (c_X8_weightAt l J z ad G r B hB hrow hW0 (nI ((pc r q)))) mw_393 mw_394 mw_395 mw_5 mw_396 pdX8_weightAt (by decide) (xo_210 J ad _) rfl rfl ⟨Nat.le_of_ble_eq_true rfl, Nat.le_of_ble_eq_true rfl⟩ ⟨Nat.le_of_ble_eq_true rfl, Nat.le_of_ble_eq_true rfl⟩ rfl (Nat.le_of_ble_eq_true rfl) dX8_refusal_214 (fun H locs h => ?_)
            refine lv_icmp_gt (tgt := 224) hx hb dX8_refusal_217 (by decide) (fun c_217 => ?_) (fun c_217 => ?_)
            · refine lv_iconst (v := nI 0) hx hb dX8_refusal_224 (by decide) ?_
              exact hret (nI 0) G _ _ 225 _ (⟨by unfold refu; rw [if_neg (Int32.not_lt.mpr c_82), if_neg (Int32.not_le.mpr c_99), if_neg (fun hC => by obtain ⟨a1, a2, a3, a4, a5⟩ := hC; first | exact a1 c_108 | exact a2 c_63 | exact a3 c_125 | exact a4 c_137 | exact (Int32.not_le.mpr a5) c_150), if_neg (fun hC => by rcases hC with ⟨a1, a2⟩ | ⟨a1, a2, a3⟩ <;> first | exact c_63 a1 | exact a1 c_63 | exact c_169 a2 | exact c_184 a2 | exact absurd a3 (Int32.not_le.mpr c_197)), if_neg (fun hC => by first | exact c_63 hC.1 | exact absurd hC.2 (Int32.not_le.mpr c_217))], rfl⟩) h dX8_refusal_225
            · refine lv_iconst (v := nI 5) hx hb dX8_refusal_220 (by decide) ?_
              refine lv_goto (tgt := 225) hx hb dX8_refusal_221 (by decide) ?_
              exact hret (nI 5) G _ _ 225 _ (⟨by unfold refu; rw [if_neg (Int32.not_lt.mpr c_82), if_neg (Int32.not_le.mpr c_99), if_neg (fun hC => by obtain ⟨a1, a2, a3, a4, a5⟩ := hC; first | exact a1 c_108 | exact a2 c_63 | exact a3 c_125 | exact a4 c_137 | exact (Int32.not_le.mpr a5) c_150), if_neg (fun hC => by rcases hC with ⟨a1, a2⟩ | ⟨a1, a2, a3⟩ <;> first | exact c_63 a1 | exact a1 c_63 | exact c_169 a2 | exact c_184 a2 | exact absurd a3 (Int32.not_le.mpr c_197)), if_pos ⟨c_63, Int32.not_lt.mp c_217⟩], rfl⟩) h dX8_refusal_225
          · refine lv_goto (tgt := 200) hx hb dX8_refusal_172 (by decide) ?_
            refine lv_iconst (v := nI 4) hx hb dX8_refusal_200 (by decide) ?_
            exact hret (nI 4) G _ _ 201 _ (⟨by unfold refu; rw [if_neg (Int32.not_lt.mpr c_82), if_neg (Int32.not_le.mpr c_99), if_neg (fun hC => by obtain ⟨a1, a2, a3, a4, a5⟩ := hC; first | exact a1 c_108 | exact a2 c_63 | exact a3 c_125 | exact a4 c_137 | exact (Int32.not_le.mpr a5) c_150), if_pos (Or.inl ⟨c_63, c_169⟩)], rfl⟩) h dX8_refusal_201
      · refine lv_iconst (v := nI 2) hx hb dX8_refusal_102 (by decide) ?_
        exact hret (nI 2) G _ _ 103 _ (⟨by unfold refu; rw [if_neg (Int32.not_lt.mpr c_82), if_pos (Int32.not_lt.mp c_99)], rfl⟩) h dX8_refusal_103
    · refine lv_iconst (v := nI 1) hx hb dX8_refusal_85 (by decide) ?_
      exact hret (nI 1) G _ _ 86 _ (⟨by unfold refu; rw [if_pos (Int32.not_le.mp c_82)], rfl⟩) h dX8_refusal_86
set_option maxHeartbeats 4000000 in
set_option maxRecDepth 100000 in
theorem c_X8_passes (l : Launch) (J : JJ) (z : Nat) (ad : Nat → Nat) (G : GG) (r : Nat → Int32) (B : Nat) (hB : B ≤ 4284) (hW : WR r) (q : Nat) (hq : q < mn r) (v : Int32) : MV l J z ad yX8_passes cX8_passes 7 1 [.ref (ad 210), .int (nI B), .int (nI q), .int v] (RG G B r) (fun uG => uG = RG G B (psr r q v)) := by
  refine MV.go (by decide) (Nat.le_of_ble_eq_true rfl) ?_
  intro pr e s m args below meth c ls Q X h hl hret
  have hx := X.1
  have hb := X.2.1
  have hown := X.2.2.2.1
  have hts := X.2.2.2.2
  have hl : lv_has ls 7 [(0, .ref (ad 210)), (1, .int (nI B)), (2, .int (nI q)), (3, .int v)] := hl
  obtain ⟨⟨w1, w2⟩, ⟨w3, w4⟩, ⟨w5, w6⟩, w7, w8⟩ := hW
  obtain ⟨v1, v2, v3, v4, v5, v6, v7, v8⟩ := w7 q hq
  refine lv_iload_n hx hb dX8_passes_0 rfl (lv_at hl 1 rfl) ?_
  refine lv_iload_n hx hb dX8_passes_1 rfl (lv_at hl 2 rfl) ?_
  refine rg_cisd (As := [.int (nI B), .int (nI q)]) (rest := []) X hl.1 h (c_X8_petitionAt l J z ad (RG G B r) B q) mw_261 mw_262 mw_5 mw_263 pdX8_petitionAt ⟨Nat.le_of_ble_eq_true rfl, Nat.le_of_ble_eq_true rfl⟩ ⟨Nat.le_of_ble_eq_true rfl, Nat.le_of_ble_eq_true rfl⟩ rfl (Nat.le_of_ble_eq_true rfl) dX8_passes_2 (fun H locs h => ?_)
  refine lv_as (y := nI (B + 5 * q + 84)) (congrArg nI (by omega)) ?_
  refine lv_istore (lv' := [(4, .int (nI (B + 5 * q + 84))), (0, .ref (ad 210)), (1, .int (nI B)), (2, .int (nI q)), (3, .int v)]) hx hb dX8_passes_5 hl (by decide) rfl (fun ls hl => ?_)
  refine lv_iload_n hx hb dX8_passes_7 rfl (lv_at hl 2 rfl) ?_
  refine lv_aload_n hx hb dX8_passes_8 rfl (lv_at hl 1 rfl) ?_
  refine fg_X8_7 X h dX8_passes_9 ?_
  refine lv_iload hx hb dX8_passes_12 (lv_at hl 0 rfl) ?_
  refine lv_iconst (v := nI 1) hx hb dX8_passes_14 (by decide) ?_
  refine lv_iadd hx hb dX8_passes_15 ?_
  refine lv_as (y := nI (B + 5 * q + 85)) (nI_addc (by omega)) ?_
  refine rs_ld X h B (5 * q + 85) (congrArg nI (by omega)) (by omega) dX8_passes_16 ?_
  refine lv_as (y := nI ((pc r q))) ((congrFun (RG_row G B r) _).trans (v3)) ?_
  refine lv_aload_n hx hb dX8_passes_17 rfl (lv_at hl 1 rfl) ?_
  refine fg_X8_7 X h dX8_passes_18 ?_
  refine lv_iload hx hb dX8_passes_21 (lv_at hl 0 rfl) ?_
  refine lv_iconst (v := nI 2) hx hb dX8_passes_23 (by decide) ?_
  refine lv_iadd hx hb dX8_passes_24 ?_
  refine lv_as (y := nI (B + 5 * q + 86)) (nI_addc (by omega)) ?_
  refine rs_ld X h B (5 * q + 86) (congrArg nI (by omega)) (by omega) dX8_passes_25 ?_
  refine lv_as (y := nI ((pg r q))) ((congrFun (RG_row G B r) _).trans (v5)) ?_
  refine rg_cisd (As := [.int (nI B), .int (nI ((pc r q))), .int (nI ((pg r q)))]) (rest := []) X hl.1 h (c_X8_bylawAt l J z ad (RG G B r) B (pc r q) (pg r q)) mw_386 mw_387 mw_5 mw_388 pdX8_bylawAt ⟨Nat.le_of_ble_eq_true rfl, Nat.le_of_ble_eq_true rfl⟩ ⟨Nat.le_of_ble_eq_true rfl, Nat.le_of_ble_eq_true rfl⟩ rfl (Nat.le_of_ble_eq_true rfl) dX8_passes_26 (fun H locs h => ?_)
  refine lv_as (y := nI (B + 60 * (pc r q) + 3 * (pg r q) + 192)) (congrArg nI (by omega)) ?_
  refine lv_istore (lv' := [(5, .int (nI (B + 60 * (pc r q) + 3 * (pg r q) + 192))), (4, .int (nI (B + 5 * q + 84))), (0, .ref (ad 210)), (1, .int (nI B)), (2, .int (nI q)), (3, .int v)]) hx hb dX8_passes_29 hl (by decide) rfl (fun ls hl => ?_)
  refine lv_aload_n hx hb dX8_passes_31 rfl (lv_at hl 2 rfl) ?_
  refine fg_X8_7 X h dX8_passes_32 ?_
  refine lv_iload hx hb dX8_passes_35 (lv_at hl 1 rfl) ?_
  refine lv_iconst (v := nI 3) hx hb dX8_passes_37 (by decide) ?_
  refine lv_iadd hx hb dX8_passes_38 ?_
  refine lv_as (y := nI (B + 5 * q + 87)) (nI_addc (by omega)) ?_
  refine rs_ld X h B (5 * q + 87) (congrArg nI (by omega)) (by omega) dX8_passes_39 ?_
  refine lv_as (y := nI ((pk r q))) ((congrFun (RG_row G B r) _).trans (v7)) ?_
  refine lv_iconst (v := nI 2) hx hb dX8_passes_40 (by decide) ?_
  refine lv_icmp_ne (tgt := 48) hx hb dX8_passes_41 (by decide) (fun c_41 => ?_) (fun c_41 => ?_)
  · rw [nI_eq (by omega) (by omega)] at c_41
    refine lv_iconst (v := nI 0) hx hb dX8_passes_48 (by decide) ?_
    refine lv_istore (lv' := [(6, .int (nI 0)), (5, .int (nI (B + 60 * (pc r q) + 3 * (pg r q) + 192))), (4, .int (nI (B + 5 * q + 84))), (0, .ref (ad 210)), (1, .int (nI B)), (2, .int (nI q)), (3, .int v)]) hx hb dX8_passes_49 hl (by decide) rfl (fun ls hl => ?_)
    refine lv_aload_n hx hb dX8_passes_51 rfl (lv_at hl 3 rfl) ?_
    refine fg_X8_7 X h dX8_passes_52 ?_
    refine lv_iload hx hb dX8_passes_55 (lv_at hl 1 rfl) ?_
    refine lv_iload hx hb dX8_passes_57 (lv_at hl 0 rfl) ?_
    refine lv_if_eq (tgt := 67) hx hb dX8_passes_59 (by decide) (fun c_59 => ?_) (fun c_59 => absurd (by decide) c_59)
    refine lv_aload_n hx hb dX8_passes_67 rfl (lv_at hl 3 rfl) ?_
    refine fg_X8_7 X h dX8_passes_68 ?_
    refine lv_iload hx hb dX8_passes_71 (lv_at hl 2 rfl) ?_
    refine lv_iconst (v := nI 3) hx hb dX8_passes_73 (by decide) ?_
    refine lv_iadd hx hb dX8_passes_74 ?_
    refine lv_as (y := nI (B + 5 * q + 87)) (nI_addc (by omega)) ?_
    refine rs_ld X h B (5 * q + 87) (congrArg nI (by omega)) (by omega) dX8_passes_75 ?_
    refine lv_as (y := nI ((pk r q))) ((congrFun (RG_row G B r) _).trans (v7)) ?_
    refine rs_st X h (60 * (pc r q) + 3 * (pg r q) + 192) (congrArg nI (by omega)) (by omega) dX8_passes_76 (fun H locs h => ?_)
    refine lv_aload_n hx hb dX8_passes_77 rfl (lv_at hl 3 rfl) ?_
    refine fg_X8_7 X h dX8_passes_78 ?_
    refine lv_iload hx hb dX8_passes_81 (lv_at hl 1 rfl) ?_
    refine lv_iconst (v := nI 1) hx hb dX8_passes_83 (by decide) ?_
    refine lv_iadd hx hb dX8_passes_84 ?_
    refine lv_as (y := nI (B + 60 * (pc r q) + 3 * (pg r q) + 193)) (nI_addc (by omega)) ?_
    refine lv_iload_n hx hb dX8_passes_85 rfl (lv_at hl 6 rfl) ?_
    refine rs_st X h (60 * (pc r q) + 3 * (pg r q) + 193) (congrArg nI (by omega)) (by omega) dX8_passes_86 (fun H locs h => ?_)
    refine lv_aload_n hx hb dX8_passes_87 rfl (lv_at hl 3 rfl) ?_
    refine fg_X8_7 X h dX8_passes_88 ?_
    refine lv_iload hx hb dX8_passes_91 (lv_at hl 1 rfl) ?_
    refine lv_iconst (v := nI 2) hx hb dX8_passes_93 (by decide) ?_
    refine lv_iadd hx hb dX8_passes_94 ?_
    refine lv_as (y := nI (B + 60 * (pc r q) + 3 * (pg r q) + 194)) (nI_addc (by omega)) ?_
    refine lv_aload_n hx hb dX8_passes_95 rfl (lv_at hl 3 rfl) ?_
    refine fg_X8_7 X h dX8_passes_96 ?_
    refine lv_iload_n hx hb dX8_passes_99 rfl (lv_at hl 4 rfl) ?_
    refine lv_iconst (v := nI 3) hx hb dX8_passes_100 (by decide) ?_
    refine lv_iadd hx hb dX8_passes_101 ?_
    refine lv_as (y := nI (B + 3)) (nI_addc (by omega)) ?_
    refine rs_ld X h B (3) (congrArg nI (by omega)) (by omega) dX8_passes_102 ?_
    refine lv_as (y := r 3) ((congrFun (RG_row G B (upd (upd r (60 * (pc r q) + 3 * (pg r q) + 192) (nI ((pk r q)))) (60 * (pc r q) + 3 * (pg r q) + 193) v)) _).trans (by rw [upd_n (by omega), upd_n (by omega)])) ?_
    refine rs_st X h (60 * (pc r q) + 3 * (pg r q) + 194) (congrArg nI (by omega)) (by omega) dX8_passes_103 (fun H locs h => ?_)
    refine lv_aload_n hx hb dX8_passes_104 rfl (lv_at hl 3 rfl) ?_
    refine fg_X8_7 X h dX8_passes_105 ?_
    refine lv_iload_n hx hb dX8_passes_108 rfl (lv_at hl 4 rfl) ?_
    refine lv_bipush (v := nI 10) hx hb dX8_passes_109 (by decide) ?_
    refine lv_iadd hx hb dX8_passes_111 ?_
    refine lv_as (y := nI (B + 10)) (nI_addc (by omega)) ?_
    refine lv_dup2_11 hx hb dX8_passes_112 rfl rfl ?_
    refine rs_ld X h B (10) (congrArg nI (by omega)) (by omega) dX8_passes_113 ?_
    refine lv_as (y := r 10) ((congrFun (RG_row G B (upd (upd (upd r (60 * (pc r q) + 3 * (pg r q) + 192) (nI ((pk r q)))) (60 * (pc r q) + 3 * (pg r q) + 193) v) (60 * (pc r q) + 3 * (pg r q) + 194) (r 3))) _).trans (by rw [upd_n (by omega), upd_n (by omega), upd_n (by omega)])) ?_
    refine lv_iload hx hb dX8_passes_114 (lv_at hl 0 rfl) ?_
    refine rg_cisd (As := [.int (nI 0)]) (rest := [.int (r 10), .int (nI (B + 10)), .ref (ad 211)]) X hl.1 h (c_X8_flag0 l J z ad (RG G B (upd (upd (upd r (60 * (pc r q) + 3 * (pg r q) + 192) (nI ((pk r q)))) (60 * (pc r q) + 3 * (pg r q) + 193) v) (60 * (pc r q) + 3 * (pg r q) + 194) (r 3)))) mw_401 mw_402 mw_5 mw_403 pdX8_flag ⟨Nat.le_of_ble_eq_true rfl, Nat.le_of_ble_eq_true rfl⟩ ⟨Nat.le_of_ble_eq_true rfl, Nat.le_of_ble_eq_true rfl⟩ rfl (Nat.le_of_ble_eq_true rfl) dX8_passes_116 (fun H locs h => ?_)
    refine lv_iadd hx hb dX8_passes_119 ?_
    refine rs_st X h (10) (congrArg nI (by omega)) (by omega) dX8_passes_120 (fun H locs h => ?_)
    exact hret (RG G B (upd (upd (upd (upd r (60 * (pc r q) + 3 * (pg r q) + 192) (nI ((pk r q)))) (60 * (pc r q) + 3 * (pg r q) + 193) v) (60 * (pc r q) + 3 * (pg r q) + 194) (r 3)) 10 ((r 10) + (nI 0)))) _ _ 121 _ (by unfold psr; rw [if_neg c_41, b2_f c_41]; rfl) h dX8_passes_121
  · rw [nI_eq (by omega) (by omega)] at c_41
    refine lv_iconst (v := nI 1) hx hb dX8_passes_44 (by decide) ?_
    refine lv_goto (tgt := 49) hx hb dX8_passes_45 (by decide) ?_
    refine lv_istore (lv' := [(6, .int (nI 1)), (5, .int (nI (B + 60 * (pc r q) + 3 * (pg r q) + 192))), (4, .int (nI (B + 5 * q + 84))), (0, .ref (ad 210)), (1, .int (nI B)), (2, .int (nI q)), (3, .int v)]) hx hb dX8_passes_49 hl (by decide) rfl (fun ls hl => ?_)
    refine lv_aload_n hx hb dX8_passes_51 rfl (lv_at hl 3 rfl) ?_
    refine fg_X8_7 X h dX8_passes_52 ?_
    refine lv_iload hx hb dX8_passes_55 (lv_at hl 1 rfl) ?_
    refine lv_iload hx hb dX8_passes_57 (lv_at hl 0 rfl) ?_
    refine lv_if_eq (tgt := 67) hx hb dX8_passes_59 (by decide) (fun c_59 => absurd c_59 (by decide)) (fun c_59 => ?_)
    refine lv_bipush (v := (-5)) hx hb dX8_passes_62 (by decide) ?_
    refine lv_goto (tgt := 76) hx hb dX8_passes_64 (by decide) ?_
    refine rs_st X h (60 * (pc r q) + 3 * (pg r q) + 192) (congrArg nI (by omega)) (by omega) dX8_passes_76 (fun H locs h => ?_)
    refine lv_aload_n hx hb dX8_passes_77 rfl (lv_at hl 3 rfl) ?_
    refine fg_X8_7 X h dX8_passes_78 ?_
    refine lv_iload hx hb dX8_passes_81 (lv_at hl 1 rfl) ?_
    refine lv_iconst (v := nI 1) hx hb dX8_passes_83 (by decide) ?_
    refine lv_iadd hx hb dX8_passes_84 ?_
    refine lv_as (y := nI (B + 60 * (pc r q) + 3 * (pg r q) + 193)) (nI_addc (by omega)) ?_
    refine lv_iload_n hx hb dX8_passes_85 rfl (lv_at hl 6 rfl) ?_
    refine rs_st X h (60 * (pc r q) + 3 * (pg r q) + 193) (congrArg nI (by omega)) (by omega) dX8_passes_86 (fun H locs h => ?_)
    refine lv_aload_n hx hb dX8_passes_87 rfl (lv_at hl 3 rfl) ?_
    refine fg_X8_7 X h dX8_passes_88 ?_
    refine lv_iload hx hb dX8_passes_91 (lv_at hl 1 rfl) ?_
    refine lv_iconst (v := nI 2) hx hb dX8_passes_93 (by decide) ?_
    refine lv_iadd hx hb dX8_passes_94 ?_
    refine lv_as (y := nI (B + 60 * (pc r q) + 3 * (pg r q) + 194)) (nI_addc (by omega)) ?_
    refine lv_aload_n hx hb dX8_passes_95 rfl (lv_at hl 3 rfl) ?_
    refine fg_X8_7 X h dX8_passes_96 ?_
    refine lv_iload_n hx hb dX8_passes_99 rfl (lv_at hl 4 rfl) ?_
    refine lv_iconst (v := nI 3) hx hb dX8_passes_100 (by decide) ?_
    refine lv_iadd hx hb dX8_passes_101 ?_
    refine lv_as (y := nI (B + 3)) (nI_addc (by omega)) ?_
    refine rs_ld X h B (3) (congrArg nI (by omega)) (by omega) dX8_passes_102 ?_
    refine lv_as (y := r 3) ((congrFun (RG_row G B (upd (upd r (60 * (pc r q) + 3 * (pg r q) + 192) (-5)) (60 * (pc r q) + 3 * (pg r q) + 193) v)) _).trans (by rw [upd_n (by omega), upd_n (by omega)])) ?_
    refine rs_st X h (60 * (pc r q) + 3 * (pg r q) + 194) (congrArg nI (by omega)) (by omega) dX8_passes_103 (fun H locs h => ?_)
    refine lv_aload_n hx hb dX8_passes_104 rfl (lv_at hl 3 rfl) ?_
    refine fg_X8_7 X h dX8_passes_105 ?_
    refine lv_iload_n hx hb dX8_passes_108 rfl (lv_at hl 4 rfl) ?_
    refine lv_bipush (v := nI 10) hx hb dX8_passes_109 (by decide) ?_
    refine lv_iadd hx hb dX8_passes_111 ?_
    refine lv_as (y := nI (B + 10)) (nI_addc (by omega)) ?_
    refine lv_dup2_11 hx hb dX8_passes_112 rfl rfl ?_
    refine rs_ld X h B (10) (congrArg nI (by omega)) (by omega) dX8_passes_113 ?_
    refine lv_as (y := r 10) ((congrFun (RG_row G B (upd (upd (upd r (60 * (pc r q) + 3 * (pg r q) + 192) (-5)) (60 * (pc r q) + 3 * (pg r q) + 193) v) (60 * (pc r q) + 3 * (pg r q) + 194) (r 3))) _).trans (by rw [upd_n (by omega), upd_n (by omega), upd_n (by omega)])) ?_
    refine lv_iload hx hb dX8_passes_114 (lv_at hl 0 rfl) ?_
    refine rg_cisd (As := [.int (nI 1)]) (rest := [.int (r 10), .int (nI (B + 10)), .ref (ad 211)]) X hl.1 h (c_X8_flag1 l J z ad (RG G B (upd (upd (upd r (60 * (pc r q) + 3 * (pg r q) + 192) (-5)) (60 * (pc r q) + 3 * (pg r q) + 193) v) (60 * (pc r q) + 3 * (pg r q) + 194) (r 3)))) mw_401 mw_402 mw_5 mw_403 pdX8_flag ⟨Nat.le_of_ble_eq_true rfl, Nat.le_of_ble_eq_true rfl⟩ ⟨Nat.le_of_ble_eq_true rfl, Nat.le_of_ble_eq_true rfl⟩ rfl (Nat.le_of_ble_eq_true rfl) dX8_passes_116 (fun H locs h => ?_)
    refine lv_iadd hx hb dX8_passes_119 ?_
    refine rs_st X h (10) (congrArg nI (by omega)) (by omega) dX8_passes_120 (fun H locs h => ?_)
    exact hret (RG G B (upd (upd (upd (upd r (60 * (pc r q) + 3 * (pg r q) + 192) (-5)) (60 * (pc r q) + 3 * (pg r q) + 193) v) (60 * (pc r q) + 3 * (pg r q) + 194) (r 3)) 10 ((r 10) + (nI 1)))) _ _ 121 _ (by unfold psr; rw [if_pos c_41, b2_t c_41]; rfl) h dX8_passes_121
end
section
/-! THE ORDER in which petitions are heard: f tells the support; counting; an insertion -/
def bef (f : Nat → Int32) (o q : Nat) : Prop := f q < f o ∨ (f o = f q ∧ o < q)
noncomputable def cnt (P : Nat → Prop) : Nat → Nat
  | 0 => 0
  | n + 1 => cnt P n + @ite _ (P n) (Classical.propDecidable _) 1 0
def OrdS (f : Nat → Int32) (n : Nat) (σ : Nat → Nat) : Prop := (∀ j, j < n → σ j < n) ∧ (∀ i j, i < j → j < n → bef f (σ i) (σ j)) ∧ ∀ P : Nat → Prop, cnt P n = cnt (fun j => P (σ j)) n
theorem cnt_congr {P P' : Nat → Prop} {n : Nat} (h : ∀ j, j < n → (P j ↔ P' j)) : cnt P n = cnt P' n := by
  induction n with
  | zero => rfl
  | succ n ih =>
    unfold cnt
    rw [ih (fun j hj => h j (by omega)), propext (h n (by omega))]
theorem cnt_lt {n k : Nat} (h : k ≤ n) : cnt (fun j => j < k) n = k := by
  induction n with
  | zero => unfold cnt; omega
  | succ n ih =>
    unfold cnt
    by_cases hk : k = n + 1
    · subst hk
      rw [if_pos (by omega), cnt_congr (P' := fun j => j < n) (fun j hj => by omega)]
      have : ∀ m, cnt (fun j => j < m) m = m := by
        intro m
        induction m with
        | zero => rfl
        | succ m ihm =>
          unfold cnt
          rw [if_pos (by omega), cnt_congr (P' := fun j => j < m) (fun j hj => by omega), ihm]
      rw [this]
    · rw [if_neg (by omega), ih (by omega)]
      rfl
theorem cnt_ex {P : Nat → Prop} {n : Nat} (h : 0 < cnt P n) : ∃ j, j < n ∧ P j := by
  induction n with
  | zero => unfold cnt at h; omega
  | succ n ih =>
    by_cases hp : P n
    · exact ⟨n, by omega, hp⟩
    · unfold cnt at h
      rw [if_neg hp] at h
      obtain ⟨j, h1, h2⟩ := ih (by omega)
      exact ⟨j, by omega, h2⟩
theorem cnt_pos {P : Nat → Prop} {n j : Nat} (hj : j < n) (h : P j) : 0 < cnt P n := by
  induction n with
  | zero => omega
  | succ n ih =>
    unfold cnt
    by_cases hk : j = n
    · subst hk
      rw [if_pos h]
      omega
    · have := ih (by omega)
      omega
theorem bef_irr {f : Nat → Int32} {q : Nat} : ¬ bef f q q := by
  rintro (h | ⟨-, h⟩)
  · rw [i32_lt] at h
    omega
  · omega
theorem bef_asymm {f : Nat → Int32} {o q : Nat} (h : bef f o q) : ¬ bef f q o := by
  unfold bef at *
  rintro (g | ⟨g1, g2⟩)
  · rcases h with h | ⟨h1, h2⟩
    · rw [i32_lt] at *
      omega
    · rw [h1, i32_lt] at g
      omega
  · rcases h with h | ⟨h1, h2⟩
    · rw [g1, i32_lt] at h
      omega
    · omega
def ins (σ : Nat → Nat) (t n : Nat) : Nat → Nat := fun j => if j < t then σ j else if j = t then n else σ (j - 1)
theorem cnt_ins {σ : Nat → Nat} {t n : Nat} (P : Nat → Prop) : ∀ d, cnt (fun j => P (ins σ t n j)) (t + d + 1) = cnt (fun j => P (σ j)) (t + d) + @ite _ (P n) (Classical.propDecidable _) 1 0 := by
  intro d
  induction d with
  | zero =>
    show cnt (fun j => P (ins σ t n j)) t + @ite _ (P (ins σ t n t)) (Classical.propDecidable _) 1 0 = _
    rw [cnt_congr (P' := fun j => P (σ j)) (fun j hj => by simp [ins, hj])]
    have e : ins σ t n t = n := by simp [ins]
    rw [e]
    rfl
  | succ d ih =>
    show cnt (fun j => P (ins σ t n j)) (t + d + 1) + @ite _ (P (ins σ t n (t + d + 1))) (Classical.propDecidable _) 1 0 = cnt (fun j => P (σ j)) (t + d) + @ite _ (P (σ (t + d))) (Classical.propDecidable _) 1 0 + @ite _ (P n) (Classical.propDecidable _) 1 0
    rw [ih]
    have e : ins σ t n (t + d + 1) = σ (t + d) := by simp [ins, show ¬ t + d + 1 < t by omega, show ¬ t + d + 1 = t by omega]
    rw [e]
    omega
theorem ord_ins {f : Nat → Int32} {n t : Nat} {σ : Nat → Nat} (h : OrdS f n σ) (ht : t ≤ n) (h1 : ∀ j, j < t → ¬ f (σ j) < f n) (h2 : ∀ j, t ≤ j → j < n → f (σ j) < f n) : OrdS f (n + 1) (ins σ t n) := by
  obtain ⟨a, b, c⟩ := h
  refine ⟨fun j hj => ?_, fun i j hij hj => ?_, fun P => ?_⟩
  · unfold ins
    split
    · have := a j (by omega)
      omega
    · split
      · omega
      · have := a (j - 1) (by omega)
        omega
  · unfold ins
    by_cases g1 : j < t
    · rw [if_pos (show i < t by omega), if_pos g1]
      exact b i j hij (by omega)
    · rw [if_neg g1]
      by_cases g2 : j = t
      · rw [if_pos g2, if_pos (show i < t by omega)]
        have g3 := h1 i (by omega)
        have g4 := a i (by omega)
        unfold bef
        rw [i32_lt] at *
        by_cases g5 : (f n).toInt = (f (σ i)).toInt
        · exact Or.inr ⟨Int32.toInt_inj.mp g5.symm, g4⟩
        · exact Or.inl (by omega)
      · rw [if_neg g2]
        by_cases g3 : i < t
        · rw [if_pos g3]
          exact b i (j - 1) (by omega) (by omega)
        · rw [if_neg g3]
          by_cases g4 : i = t
          · rw [if_pos g4]
            exact Or.inl (h2 (j - 1) (by omega) (by omega))
          · rw [if_neg g4]
            exact b (i - 1) (j - 1) (by omega) (by omega)
  · have e := cnt_ins (σ := σ) (t := t) (n := n) P (n - t)
    rw [show t + (n - t) = n by omega] at e
    rw [e, ← c P]
    rfl
theorem ord_step {f : Nat → Int32} {k t : Nat} {σ : Nat → Nat} {og : Nat → Int32} (h : OrdS f k σ) (ht : t ≤ k) (h1 : ∀ j, j < t → og j = nI (σ j)) (h2 : ∀ j, t < j → j ≤ k → og j = nI (σ (j - 1)) ∧ f (σ (j - 1)) < f k) (h3 : t = 0 ∨ ¬ f (σ (t - 1)) < f k) : ∃ σ' : Nat → Nat, OrdS f (k + 1) σ' ∧ ∀ j, j < k + 1 → upd og t (nI k) j = nI (σ' j) := by
  refine ⟨ins σ t k, ord_ins h ht (fun j hj => ?_) (fun j g1 g2 => ?_), fun j hj => ?_⟩
  · rcases h3 with h3 | h3
    · omega
    · by_cases g : j = t - 1
      · rw [g]
        exact h3
      · have g2 := h.2.1 j (t - 1) (by omega) (by omega)
        unfold bef at g2
        rw [i32_lt] at *
        rcases g2 with g2 | ⟨g2, -⟩
        · omega
        · rw [g2]
          exact h3
  · have := (h2 (j + 1) (by omega) (by omega)).2
    rw [show j + 1 - 1 = j by omega] at this
    exact this
  · unfold ins
    by_cases g1 : j < t
    · rw [if_pos g1, upd_n (by omega)]
      exact h1 j g1
    · rw [if_neg g1]
      by_cases g2 : j = t
      · rw [if_pos g2, g2, upd_s]
      · rw [if_neg g2, upd_n g2]
        exact (h2 j (by omega) (by omega)).1
/-- the rank of a petition: how many are heard ahead of it -/
noncomputable def rnk (f : Nat → Int32) (n q : Nat) : Nat := cnt (fun o => bef f o q) n
theorem ord_rnk {f : Nat → Int32} {n j : Nat} {σ : Nat → Nat} (h : OrdS f n σ) (hj : j < n) : rnk f n (σ j) = j := by
  unfold rnk
  rw [h.2.2]
  rw [cnt_congr (P' := fun i => i < j) (fun i hi => ?_), cnt_lt (by omega)]
  constructor
  · intro g
    rcases Nat.lt_trichotomy i j with g1 | g1 | g1
    · exact g1
    · subst g1
      exact absurd g bef_irr
    · exact absurd (h.2.1 j i g1 hi) (bef_asymm g)
  · intro g
    exact h.2.1 i j g hj
theorem ord_sur {f : Nat → Int32} {n q : Nat} {σ : Nat → Nat} (h : OrdS f n σ) (hq : q < n) : ∃ j, j < n ∧ σ j = q := by
  have e := h.2.2 (fun x => x = q)
  have p := cnt_pos (P := fun x => x = q) hq rfl
  rw [e] at p
  exact cnt_ex p
theorem ord_inj {f : Nat → Int32} {n i j : Nat} {σ : Nat → Nat} (h : OrdS f n σ) (hi : i < n) (hj : j < n) (e : σ i = σ j) : i = j := by
  have a := ord_rnk h hi
  rw [e, ord_rnk h hj] at a
  exact a.symm
/-- the one of rank k is the k-th -/
theorem ord_at {f : Nat → Int32} {n k q : Nat} {σ : Nat → Nat} (h : OrdS f n σ) (hq : q < n) : rnk f n q = k ↔ (k < n ∧ σ k = q) := by
  constructor
  · intro e
    obtain ⟨j, h1, h2⟩ := ord_sur h hq
    have a := ord_rnk h h1
    rw [h2, e] at a
    subst a
    exact ⟨h1, h2⟩
  · rintro ⟨h1, rfl⟩
    exact ord_rnk h h1
theorem u1_uu {G : GG} {k j : Nat} {f : Nat → Int32} {v : Int32} : u1 (u1 G k f) k (upd ((u1 G k f) k) j v) = u1 G k (upd f j v) := by
  funext a
  by_cases h : a = k
  · subst h
    simp [u1]
  · simp [u1, h]
theorem u1_self (G : GG) (k : Nat) : u1 G k (G k) = G := by
  funext a
  by_cases h : a = k
  · subst h
    simp [u1]
  · simp [u1, h]
end
section
set_option maxHeartbeats 4000000 in
set_option maxRecDepth 100000 in
theorem c_X8_sorts (l : Launch) (J : JJ) (z : Nat) (ad : Nat → Nat) (G : GG) (r : Nat → Int32) (B : Nat) (hB : B ≤ 4284) (hW : WR r) : MV l J z ad yX8_sorts cX8_sorts 4 2 [.ref (ad 210), .int (nI B)] (RG G B r) (fun uG => ∃ (og : Nat → Int32) (σ : Nat → Nat), uG = RG (u1 G 213 og) B r ∧ OrdS (supp r) (mn r) σ ∧ ∀ j, j < mn r → og j = nI (σ j)) := by
  refine MV.go (by decide) (Nat.le_of_ble_eq_true rfl) ?_
  intro pr e s m args below meth c ls Q X h hl hret
  have hx := X.1
  have hb := X.2.1
  have hown := X.2.2.2.1
  have hts := X.2.2.2.2
  have hl : lv_has ls 4 [(0, .ref (ad 210)), (1, .int (nI B))] := hl
  have hW0 := hW
  obtain ⟨⟨w1, w2⟩, ⟨w3, w4⟩, ⟨w5, w6⟩, w7, w8⟩ := hW
  refine lv_iconst (v := nI 0) hx hb dX8_sorts_0 (by decide) ?_
  refine lv_istore_n (lv' := [(2, .int (nI 0)), (0, .ref (ad 210)), (1, .int (nI B))]) hx hb dX8_sorts_1 rfl hl (by decide) rfl (fun ls hl => ?_)
  have LP : ∀ (n k : Nat), mn r + 1 ≤ k + n → k ≤ mn r → ∀ (og : Nat → Int32) (σ : Nat → Nat), OrdS (supp r) k σ → (∀ j, j < k → og j = nI (σ j)) → ∀ (H : Heap) (locs : List Loc) (ls : Array Slot), HG J z ad s (RG (u1 G 213 og) B r) H locs → lv_has ls 4 [(0, .ref (ad 210)), (1, .int (nI B)), (2, .int (nI k))] → W pr l e (rmD 2 0 0) s m args below meth c H locs 0 0 Q (F0 m 2 ls []) := by
    intro n
    induction n with
    | zero =>
      intro k g1 g2
      exact absurd g1 (by omega)
    | succ n ih =>
      intro k g1 g2 og σ hO ho H locs ls h hl
      refine lv_iload_n hx hb dX8_sorts_2 rfl (lv_at hl 2 rfl) ?_
      refine lv_aload_n hx hb dX8_sorts_3 rfl (lv_at hl 0 rfl) ?_
      refine fg_X8_7 X h dX8_sorts_4 ?_
      refine lv_iload_n hx hb dX8_sorts_7 rfl (lv_at hl 1 rfl) ?_
      refine lv_bipush (v := nI 6) hx hb dX8_sorts_8 (by decide) ?_
      refine lv_iadd hx hb dX8_sorts_10 ?_
      refine lv_as (y := nI (B + 6)) (nI_addc (by omega)) ?_
      refine rs_ld X h B (6) (congrArg nI (by omega)) (by omega) dX8_sorts_11 ?_
      refine lv_as (y := nI ((mn r))) ((congrFun (RG_row (u1 G 213 og) B r) _).trans (w3)) ?_
      refine lv_icmp_ge (tgt := 76) hx hb dX8_sorts_12 (by decide) (fun c_12 => ?_) (fun c_12 => ?_)
      · rw [nI_leI (by omega) (by omega)] at c_12
        exact hret (RG (u1 G 213 og) B r) _ _ 76 _ (⟨og, σ, rfl, by rw [show mn r = k by omega]; exact hO, fun j hj => ho j (by omega)⟩) h dX8_sorts_76
      · rw [nI_leI (by omega) (by omega)] at c_12
        refine lv_iload_n hx hb dX8_sorts_15 rfl (lv_at hl 2 rfl) ?_
        refine lv_istore_n (lv' := [(3, .int (nI k)), (0, .ref (ad 210)), (1, .int (nI B)), (2, .int (nI k))]) hx hb dX8_sorts_16 rfl hl (by decide) rfl (fun ls hl => ?_)
        have K63 : ∀ t, t ≤ k → ∀ (og1 : Nat → Int32), (∀ j, j < t → og1 j = nI (σ j)) → (∀ j, t < j → j ≤ k → og1 j = nI (σ (j - 1)) ∧ supp r (σ (j - 1)) < supp r k) → (t = 0 ∨ ¬ supp r (σ (t - 1)) < supp r k) → ∀ (H : Heap) (locs : List Loc) (ls : Array Slot), HG J z ad s (RG (u1 G 213 og1) B r) H locs → lv_has ls 4 [(0, .ref (ad 210)), (1, .int (nI B)), (2, .int (nI k)), (3, .int (nI t))] → W pr l e (rmD 2 0 0) s m args below meth c H locs 0 0 Q (F0 m 63 ls []) := by
          intro t ht og1 h1 h2 h3 H locs ls h hl
          obtain ⟨σ2, hO2, ho2⟩ := ord_step hO ht h1 h2 h3
          refine lv_aload_n hx hb dX8_sorts_63 rfl (lv_at hl 0 rfl) ?_
          refine fg_X8_23 X h dX8_sorts_64 ?_
          refine lv_iload_n hx hb dX8_sorts_67 rfl (lv_at hl 3 rfl) ?_
          refine lv_iload_n hx hb dX8_sorts_68 rfl (lv_at hl 2 rfl) ?_
          refine rg_ist X h 213 (by decide) (xa_213 J ad) (t) rfl (by omega) (by decide) dX8_sorts_69 (fun H locs h => ?_)
          rw [RG_put (by decide)] at h
          rw [u1_uu] at h
          refine lv_iinc (v := nI (k + 1)) (lv' := [(2, .int (nI (k + 1))), (0, .ref (ad 210)), (1, .int (nI B)), (3, .int (nI t))]) hx hb dX8_sorts_70 hl (k := 2) rfl (nI_addc (b := 1) (by omega)) (by decide) rfl (fun ls hl => ?_)
          refine lv_goto (tgt := 2) hx hb dX8_sorts_73 (by decide) ?_
          exact ih (k + 1) (by omega) (by omega) _ _ hO2 ho2 _ _ _ h (lv_sub hl [1, 2, 0] rfl)
        have IN : ∀ t, t ≤ k → ∀ (og1 : Nat → Int32), (∀ j, j < t → og1 j = nI (σ j)) → (∀ j, t < j → j ≤ k → og1 j = nI (σ (j - 1)) ∧ supp r (σ (j - 1)) < supp r k) → ∀ (H : Heap) (locs : List Loc) (ls : Array Slot), HG J z ad s (RG (u1 G 213 og1) B r) H locs → lv_has ls 4 [(0, .ref (ad 210)), (1, .int (nI B)), (2, .int (nI k)), (3, .int (nI t))] → W pr l e (rmD 2 0 0) s m args below meth c H locs 0 0 Q (F0 m 17 ls []) := by
          intro t
          induction t with
          | zero =>
            intro ht og1 h1 h2 H locs ls h hl
            refine lv_iload_n hx hb dX8_sorts_17 rfl (lv_at hl 3 rfl) ?_
            refine lv_if_le (tgt := 63) hx hb dX8_sorts_18 (by decide) (fun c_18 => ?_) (fun c_18 => absurd (by decide) c_18)
            exact K63 0 (by omega) _ h1 h2 (Or.inl rfl) _ _ _ h (lv_sub hl [0, 1, 2, 3] rfl)
          | succ t ih17 =>
            intro ht og1 h1 h2 H locs ls h hl
            refine lv_iload_n hx hb dX8_sorts_17 rfl (lv_at hl 3 rfl) ?_
            refine lv_if_le (tgt := 63) hx hb dX8_sorts_18 (by decide) (fun c_18 => absurd c_18 (by rw [nz_le (by omega)]; omega)) (fun c_18 => ?_)
            refine lv_aload_n hx hb dX8_sorts_21 rfl (lv_at hl 0 rfl) ?_
            refine lv_iload_n hx hb dX8_sorts_22 rfl (lv_at hl 1 rfl) ?_
            refine lv_aload_n hx hb dX8_sorts_23 rfl (lv_at hl 0 rfl) ?_
            refine fg_X8_23 X h dX8_sorts_24 ?_
            refine lv_iload_n hx hb dX8_sorts_27 rfl (lv_at hl 3 rfl) ?_
            refine lv_iconst (v := nI 1) hx hb dX8_sorts_28 (by decide) ?_
            refine lv_isub hx hb dX8_sorts_29 ?_
            refine lv_as (y := nI t) (nI_subc (by omega)) ?_
            refine rg_ild X h 213 (by decide) (xa_213 J ad) (t) rfl (by omega) (by decide) dX8_sorts_30 ?_
            refine lv_as (y := (u1 G 213 og1) 213 t) (RG_get (by decide)) ?_
            refine lv_as (y := nI ((σ t))) (h1 t (by omega)) ?_
            refine rg_civd (As := [.int (nI B), .int (nI ((σ t)))]) (rest := []) X hl.1 h (c_X8_support l J z ad (RG (u1 G 213 og1) B r) r B hB (RG_row (u1 G 213 og1) B r) hW0 (σ t) (by have := hO.1 t (by omega); omega)) mw_291 mw_292 mw_293 mw_5 mw_294 pdX8_support (by decide) (xo_210 J ad _) rfl rfl ⟨Nat.le_of_ble_eq_true rfl, Nat.le_of_ble_eq_true rfl⟩ ⟨Nat.le_of_ble_eq_true rfl, Nat.le_of_ble_eq_true rfl⟩ rfl (Nat.le_of_ble_eq_true rfl) dX8_sorts_31 (fun H locs h => ?_)
            refine lv_aload_n hx hb dX8_sorts_34 rfl (lv_at hl 0 rfl) ?_
            refine lv_iload_n hx hb dX8_sorts_35 rfl (lv_at hl 1 rfl) ?_
            refine lv_iload_n hx hb dX8_sorts_36 rfl (lv_at hl 2 rfl) ?_
            refine rg_civd (As := [.int (nI B), .int (nI k)]) (rest := [.int (supp r (σ t))]) X hl.1 h (c_X8_support l J z ad (RG (u1 G 213 og1) B r) r B hB (RG_row (u1 G 213 og1) B r) hW0 k (by omega)) mw_291 mw_292 mw_293 mw_5 mw_294 pdX8_support (by decide) (xo_210 J ad _) rfl rfl ⟨Nat.le_of_ble_eq_true rfl, Nat.le_of_ble_eq_true rfl⟩ ⟨Nat.le_of_ble_eq_true rfl, Nat.le_of_ble_eq_true rfl⟩ rfl (Nat.le_of_ble_eq_true rfl) dX8_sorts_37 (fun H locs h => ?_)
            refine lv_icmp_ge (tgt := 63) hx hb dX8_sorts_40 (by decide) (fun c_40 => ?_) (fun c_40 => ?_)
            · exact K63 (t + 1) (by omega) _ h1 h2 (Or.inr (by show ¬ supp r (σ (t + 1 - 1)) < _; rw [show t + 1 - 1 = t by omega]; exact Int32.not_lt.mpr c_40)) _ _ _ h (lv_sub hl [0, 1, 2, 3] rfl)
            · refine lv_aload_n hx hb dX8_sorts_43 rfl (lv_at hl 0 rfl) ?_
              refine fg_X8_23 X h dX8_sorts_44 ?_
              refine lv_iload_n hx hb dX8_sorts_47 rfl (lv_at hl 3 rfl) ?_
              refine lv_aload_n hx hb dX8_sorts_48 rfl (lv_at hl 0 rfl) ?_
              refine fg_X8_23 X h dX8_sorts_49 ?_
              refine lv_iload_n hx hb dX8_sorts_52 rfl (lv_at hl 3 rfl) ?_
              refine lv_iconst (v := nI 1) hx hb dX8_sorts_53 (by decide) ?_
              refine lv_isub hx hb dX8_sorts_54 ?_
              refine lv_as (y := nI t) (nI_subc (by omega)) ?_
              refine rg_ild X h 213 (by decide) (xa_213 J ad) (t) rfl (by omega) (by decide) dX8_sorts_55 ?_
              refine lv_as (y := (u1 G 213 og1) 213 t) (RG_get (by decide)) ?_
              refine lv_as (y := nI ((σ t))) (h1 t (by omega)) ?_
              refine rg_ist X h 213 (by decide) (xa_213 J ad) (t + 1) rfl (by omega) (by decide) dX8_sorts_56 (fun H locs h => ?_)
              rw [RG_put (by decide)] at h
              rw [u1_uu] at h
              refine lv_iinc (v := nI t) (lv' := [(3, .int (nI t)), (0, .ref (ad 210)), (1, .int (nI B)), (2, .int (nI k))]) hx hb dX8_sorts_57 hl (k := 3) rfl (nI_decc (by omega)) (by decide) rfl (fun ls hl => ?_)
              refine lv_goto (tgt := 17) hx hb dX8_sorts_60 (by decide) ?_
              exact ih17 (by omega) _ (fun j hj => by rw [upd_n (by omega)]; exact h1 j (by omega)) (fun j j1 j2 => by
                by_cases hj : j = t + 1
                · subst hj
                  rw [upd_s]
                  exact ⟨rfl, Int32.not_le.mp c_40⟩
                · rw [upd_n hj]
                  exact h2 j (by omega) j2) _ _ _ h (lv_sub hl [1, 2, 3, 0] rfl)
        exact IN k (by omega) og ho (fun j j1 j2 => by omega) _ _ _ h (lv_sub hl [1, 2, 3, 0] rfl)
  exact LP (mn r + 1) 0 (by omega) (by omega) (G 213) (fun j => j) ⟨fun j hj => by omega, fun i j g1 g2 => by omega, fun P => rfl⟩ (fun j hj => by omega) _ _ _ (by rw [u1_self]; exact h) (lv_sub hl [1, 2, 0] rfl)
end
section
/-! A HEARING in the reference's row: first each petition in its order, then the accounts -/
def LawEq (r y : Nat → Int32) : Prop := ∀ k, k < 192 → k ≠ 10 → y k = r k
def EstEq (r y : Nat → Int32) : Prop := ∀ k, (k ≤ 10 ∨ (84 ≤ k ∧ k < 144) ∨ 192 ≤ k ∨ (12 ≤ k ∧ k < 84 ∧ (k - 12) % 6 < 4)) → y k = r k
theorem LawEq.rf (r : Nat → Int32) : LawEq r r := fun _ _ _ => rfl
theorem LawEq.tr {a b c : Nat → Int32} (h : LawEq a b) (g : LawEq b c) : LawEq a c := fun k h1 h2 => (g k h1 h2).trans (h k h1 h2)
theorem EstEq.rf (r : Nat → Int32) : EstEq r r := fun _ _ => rfl
theorem EstEq.tr {a b c : Nat → Int32} (h : EstEq a b) (g : EstEq b c) : EstEq a c := fun k h1 => (g k h1).trans (h k h1)
theorem itr_congr {α : Type} {f g : Nat → α → α} {a b : α} {n : Nat} (hab : a = b) (h : ∀ i, i < n → ∀ x, f i x = g i x) : itr f a n = itr g b n := by
  induction n with
  | zero => exact hab
  | succ n ih =>
    show f n (itr f a n) = g n (itr g b n)
    rw [ih (fun i hi => h i (by omega)), h n (by omega)]
/-- the support reads the drones' weights and the petition's row alone -/
theorem supp_congr {r y : Nat → Int32} {q : Nat} (h5 : y 5 = r 5) (hk : kn r ≤ 12) (hp : pd r q < 12) (hq : y (5 * q + 84) = r (5 * q + 84)) (hq2 : y (5 * q + 88) = r (5 * q + 88)) (hd : ∀ d, d < 12 → y (6 * d + 13) = r (6 * d + 13)) : supp y q = supp r q := by
  have e1 : kn y = kn r := by unfold kn; rw [h5]
  have e2 : pd y q = pd r q := by unfold pd; rw [hq]
  unfold supp
  rw [e1, e2, hq2, hd _ hp]
  exact itr_congr rfl (fun i hi x => by rw [hd i (by omega)])
theorem LawEq.supp {r y : Nat → Int32} {q : Nat} (h : LawEq r y) (hW : WR r) (hq : q < mn r) : supp y q = supp r q := by
  obtain ⟨⟨w1, w2⟩, ⟨w3, w4⟩, ⟨w5, w6⟩, w7, w8⟩ := hW
  obtain ⟨v1, v2, -⟩ := w7 q hq
  exact supp_congr (h 5 (by omega) (by omega)) w2 (by omega) (h _ (by omega) (by omega)) (h _ (by omega) (by omega)) (fun d hd => h _ (by omega) (by omega))
theorem EstEq.supp {r y : Nat → Int32} {q : Nat} (h : EstEq r y) (hW : WR r) (hq : q < mn r) : supp y q = supp r q := by
  obtain ⟨⟨w1, w2⟩, ⟨w3, w4⟩, ⟨w5, w6⟩, w7, w8⟩ := hW
  obtain ⟨v1, v2, -⟩ := w7 q hq
  exact supp_congr (h 5 (by omega)) w2 (by omega) (h _ (by omega)) (h _ (by omega)) (fun d hd => h _ (by omega))
theorem WR_of {r y : Nat → Int32} (hW : WR r) (h5 : y 5 = r 5) (h6 : y 6 = r 6) (h11 : ∃ o, o ≤ 12 ∧ y 11 = nI o) (hp : ∀ k, 84 ≤ k → k < 144 → y k = r k) (hd : ∀ d, d < 12 → y (6 * d + 12) = r (6 * d + 12)) : WR y := by
  obtain ⟨⟨w1, w2⟩, ⟨w3, w4⟩, ⟨w5, w6⟩, w7, w8⟩ := hW
  have e1 : kn y = kn r := by unfold kn; rw [h5]
  have e2 : mn y = mn r := by unfold mn; rw [h6]
  obtain ⟨o, o1, o2⟩ := h11
  have e3 : on y = o := by unfold on; rw [o2]; exact tn_nI (by omega)
  refine ⟨⟨by rw [h5, e1]; exact w1, by omega⟩, ⟨by rw [h6, e2]; exact w3, by omega⟩, ⟨by rw [e3]; exact o2, by omega⟩, fun q hq => ?_, fun d hd2 => ?_⟩
  · rw [e2] at hq
    obtain ⟨v1, v2, v3, v4, v5, v6, v7, v8⟩ := w7 q hq
    have a1 : pd y q = pd r q := by unfold pd; rw [hp _ (by omega) (by omega)]
    have a2 : pc y q = pc r q := by unfold pc; rw [hp _ (by omega) (by omega)]
    have a3 : pg y q = pg r q := by unfold pg; rw [hp _ (by omega) (by omega)]
    have a4 : pk y q = pk r q := by unfold pk; rw [hp _ (by omega) (by omega)]
    rw [a1, a2, a3, a4, e1, hp _ (by omega) (by omega), hp _ (by omega) (by omega), hp _ (by omega) (by omega), hp _ (by omega) (by omega)]
    exact ⟨v1, v2, v3, v4, v5, v6, v7, v8⟩
  · rw [e1] at hd2
    have a1 : dc y d = dc r d := by unfold dc; rw [hd d (by omega)]
    rw [a1, hd d (by omega)]
    exact w8 d hd2
theorem LawEq.WR {r y : Nat → Int32} (h : LawEq r y) (hW : WR r) : WR y := by
  refine WR_of hW (h 5 (by omega) (by omega)) (h 6 (by omega) (by omega)) ?_ (fun k h1 h2 => h k (by omega) (by omega)) (fun d hd => h _ (by omega) (by omega))
  obtain ⟨-, -, ⟨w5, w6⟩, -⟩ := hW
  exact ⟨on r, w6, by rw [h 11 (by omega) (by omega)]; exact w5⟩
theorem LawEq.mn {r y : Nat → Int32} (h : LawEq r y) : mn y = mn r := by
  show tn (y 6) = tn (r 6)
  rw [h 6 (by omega) (by omega)]
theorem EstEq.mn {r y : Nat → Int32} (h : EstEq r y) : mn y = mn r := by
  show tn (y 6) = tn (r 6)
  rw [h 6 (by omega)]
theorem EstEq.WR {r y : Nat → Int32} (h : EstEq r y) (hW : WR r) (h11 : ∃ o, o ≤ 12 ∧ y 11 = nI o) : WR y :=
  WR_of hW (h 5 (by omega)) (h 6 (by omega)) h11 (fun k h1 h2 => h k (by omega)) (fun d hd => h _ (by omega))
theorem psr_law (r : Nat → Int32) (q : Nat) (v : Int32) : LawEq r (psr r q v) := by
  intro k h1 h2
  unfold psr
  rw [upd_n h2, upd_n (by omega), upd_n (by omega), upd_n (by omega)]
abbrev HS3 : Type := (Nat → Int32) × Nat × (Nat → Int32)
/-- one petition is heard -/
noncomputable def hst (σ : Nat → Nat) (k : Nat) (x : HS3) : HS3 :=
  (if refu x.1 (σ k) (supp x.1 (σ k)) = 0 then psr x.1 (σ k) (supp x.1 (σ k)) else x.1, if refu x.1 (σ k) (supp x.1 (σ k)) = 0 then x.2.1 + 1 else x.2.1, upd x.2.2 (σ k) (refu x.1 (σ k) (supp x.1 (σ k))))
noncomputable def hear (r f : Nat → Int32) (σ : Nat → Nat) (n : Nat) : HS3 := itr (hst σ) (r, 0, f) n
theorem hear_pos {r f : Nat → Int32} {σ : Nat → Nat} {k c : Nat} {x g : Nat → Int32} (e : hear r f σ k = (x, c, g)) (h : refu x (σ k) (supp x (σ k)) = 0) : hear r f σ (k + 1) = (psr x (σ k) (supp x (σ k)), c + 1, upd g (σ k) (refu x (σ k) (supp x (σ k)))) := by
  show hst σ k (hear r f σ k) = _
  rw [e]
  unfold hst
  simp only [if_pos h]
theorem hear_neg {r f : Nat → Int32} {σ : Nat → Nat} {k c : Nat} {x g : Nat → Int32} (e : hear r f σ k = (x, c, g)) (h : ¬ refu x (σ k) (supp x (σ k)) = 0) : hear r f σ (k + 1) = (x, c, upd g (σ k) (refu x (σ k) (supp x (σ k)))) := by
  show hst σ k (hear r f σ k) = _
  rw [e]
  unfold hst
  simp only [if_neg h]
theorem hear_ok {r f : Nat → Int32} {σ : Nat → Nat} : ∀ {k c : Nat} {x g : Nat → Int32}, hear r f σ k = (x, c, g) → LawEq r x ∧ c ≤ k := by
  intro k
  induction k with
  | zero =>
    intro c x g e
    cases e
    exact ⟨LawEq.rf r, Nat.le_refl _⟩
  | succ k ih =>
    intro c x g e
    have e0 : hear r f σ k = ((hear r f σ k).1, (hear r f σ k).2.1, (hear r f σ k).2.2) := rfl
    obtain ⟨h1, h2⟩ := ih e0
    by_cases h : refu (hear r f σ k).1 (σ k) (supp (hear r f σ k).1 (σ k)) = 0
    · rw [hear_pos e0 h] at e
      cases e
      exact ⟨h1.tr (psr_law _ _ _), by omega⟩
    · rw [hear_neg e0 h] at e
      cases e
      exact ⟨h1, by omega⟩
/-- the accounts of one petition, whose reason is f q -/
def est (f : Nat → Int32) (q : Nat) (y : Nat → Int32) : Nat → Int32 :=
  if 0 < f q then upd (upd (upd (upd (upd (upd y (6 * (pd y q) + 17) (y (6 * (pd y q) + 17) + nI 1)) (4 * (on y) + 144) (nI (pc y q))) (4 * (on y) + 145) (nI (pg y q))) (4 * (on y) + 146) (nI (pk y q))) (4 * (on y) + 147) (supp y q)) 11 (nI (on y + 1))
  else upd y (6 * (pd y q) + 16) (y (6 * (pd y q) + 16) + nI 1)
def ests (r f : Nat → Int32) (n : Nat) : Nat → Int32 := itr (est f) (upd r 11 (nI 0)) n
theorem est_eq {f y : Nat → Int32} {q : Nat} (h1 : pd y q < 12) (h2 : on y < 12) : EstEq y (est f q y) := by
  intro k hk
  unfold est
  split
  · rw [upd_n (by omega), upd_n (by omega), upd_n (by omega), upd_n (by omega), upd_n (by omega), upd_n (by omega)]
  · rw [upd_n (by omega)]
theorem est_11 {f y : Nat → Int32} {q : Nat} (h1 : pd y q < 12) (h : y 11 = nI (on y)) : est f q y 11 = nI (if 0 < f q then on y + 1 else on y) := by
  unfold est
  split
  · rw [upd_s]
  · rw [upd_n (by omega)]
    exact h
theorem ests_ok {r f : Nat → Int32} (hW : WR r) : ∀ {n : Nat}, n ≤ mn r → EstEq r (ests r f n) ∧ ∃ o, o ≤ n ∧ ests r f n 11 = nI o := by
  intro n
  induction n with
  | zero =>
    intro _
    refine ⟨fun k hk => upd_n (by omega), 0, Nat.le_refl _, ?_⟩
    show upd r 11 (nI 0) 11 = nI 0
    exact upd_s _ _ _
  | succ n ih =>
    intro hn
    obtain ⟨h1, o, h2, h3⟩ := ih (by omega)
    have hm : mn r ≤ 12 := hW.2.1.2
    have hW2 := h1.WR hW ⟨o, by omega, h3⟩
    have ho : on (ests r f n) = o := by show tn _ = o; rw [h3]; exact tn_nI (by omega)
    have hmn := h1.mn
    obtain ⟨v1, v2, -⟩ := hW2.2.2.2.1 n (by omega)
    have hk := hW2.1.2
    show EstEq r (est f n (ests r f n)) ∧ ∃ o, o ≤ n + 1 ∧ est f n (ests r f n) 11 = nI o
    refine ⟨h1.tr (est_eq (by omega) (by omega)), _, ?_, est_11 (by omega) (by rw [ho]; exact h3)⟩
    split <;> omega
/-- a whole hearing: the row behind it -/
noncomputable def hrow (r f : Nat → Int32) (σ : Nat → Nat) : Nat → Int32 :=
  upd (upd (ests (hear r f σ (mn r)).1 (hear r f σ (mn r)).2.2 (mn r)) 8 (ests (hear r f σ (mn r)).1 (hear r f σ (mn r)).2.2 (mn r) 8 + nI (hear r f σ (mn r)).2.1)) 9 (ests (hear r f σ (mn r)).1 (hear r f σ (mn r)).2.2 (mn r) 9 + (nI (mn r) - nI (hear r f σ (mn r)).2.1))
end
section
set_option maxHeartbeats 4000000 in
set_option maxRecDepth 100000 in
theorem c_X8_hears (l : Launch) (J : JJ) (z : Nat) (ad : Nat → Nat) (G : GG) (r : Nat → Int32) (B : Nat) (hB : B ≤ 4284) (hW : WR r) : MI l J z ad yX8_hears cX8_hears 9 .int 3 [.ref (ad 210), .int (nI B)] (RG G B r) (fun ans uG => ∃ (og : Nat → Int32) (σ : Nat → Nat), OrdS (supp r) (mn r) σ ∧ ans = nI (hear r (G 214) σ (mn r)).2.1 ∧ uG = RG (u1 (u1 G 213 og) 214 (hear r (G 214) σ (mn r)).2.2) B (hrow r (G 214) σ)) := by
  refine MI.go (by decide) (Nat.le_of_ble_eq_true rfl) ?_
  intro pr e s m args below meth c ls Q X h hl hret
  have hx := X.1
  have hb := X.2.1
  have hown := X.2.2.2.1
  have hts := X.2.2.2.2
  have hl : lv_has ls 9 [(0, .ref (ad 210)), (1, .int (nI B))] := hl
  have hW0 := hW
  have hn12 : mn r ≤ 12 := hW.2.1.2
  have w3 : r 6 = nI (mn r) := hW.2.1.1
  refine lv_aload_n hx hb dX8_hears_0 rfl (lv_at hl 0 rfl) ?_
  refine fg_X8_7 X h dX8_hears_1 ?_
  refine lv_iload_n hx hb dX8_hears_4 rfl (lv_at hl 1 rfl) ?_
  refine lv_bipush (v := nI 6) hx hb dX8_hears_5 (by decide) ?_
  refine lv_iadd hx hb dX8_hears_7 ?_
  refine lv_as (y := nI (B + 6)) (nI_addc (by omega)) ?_
  refine rs_ld X h B (6) (congrArg nI (by omega)) (by omega) dX8_hears_8 ?_
  refine lv_as (y := nI ((mn r))) ((congrFun (RG_row G B r) _).trans (w3)) ?_
  refine lv_istore_n (lv' := [(2, .int (nI ((mn r)))), (0, .ref (ad 210)), (1, .int (nI B))]) hx hb dX8_hears_9 rfl hl (by decide) rfl (fun ls hl => ?_)
  refine lv_iconst (v := nI 0) hx hb dX8_hears_10 (by decide) ?_
  refine lv_istore_n (lv' := [(3, .int (nI 0)), (2, .int (nI ((mn r)))), (0, .ref (ad 210)), (1, .int (nI B))]) hx hb dX8_hears_11 rfl hl (by decide) rfl (fun ls hl => ?_)
  refine lv_aload_n hx hb dX8_hears_12 rfl (lv_at hl 2 rfl) ?_
  refine lv_iload_n hx hb dX8_hears_13 rfl (lv_at hl 3 rfl) ?_
  refine rg_cvv (As := [.int (nI B)]) (rest := []) X hl.1 h (c_X8_sorts l J z ad G r B hB hW0) mw_378 mw_379 mw_380 mw_5 mw_381 pdX8_sorts (by decide) (xo_210 J ad _) rfl rfl ⟨Nat.le_of_ble_eq_true rfl, Nat.le_of_ble_eq_true rfl⟩ ⟨Nat.le_of_ble_eq_true rfl, Nat.le_of_ble_eq_true rfl⟩ rfl (Nat.le_of_ble_eq_true rfl) dX8_hears_14 (fun G1 H locs q1 h => ?_)
  obtain ⟨og, σ, rfl, hO, ho⟩ := q1
  have hu : u1 (u1 G 213 og) 214 (G 214) = u1 G 213 og := by
    have e : G 214 = (u1 G 213 og) 214 := (u1_n (by decide)).symm
    rw [e, u1_self]
  rw [← hu] at h
  refine lv_iconst (v := nI 0) hx hb dX8_hears_17 (by decide) ?_
  refine lv_istore (lv' := [(4, .int (nI 0)), (3, .int (nI 0)), (2, .int (nI ((mn r)))), (0, .ref (ad 210)), (1, .int (nI B))]) hx hb dX8_hears_18 hl (by decide) rfl (fun ls hl => ?_)
  have LP : ∀ (n i : Nat), mn r + 1 ≤ i + n → i ≤ mn r → ∀ (x : Nat → Int32) (cN : Nat) (g : Nat → Int32), hear r (G 214) σ i = (x, cN, g) → ∀ (H : Heap) (locs : List Loc) (ls : Array Slot), HG J z ad s (RG (u1 (u1 G 213 og) 214 g) B x) H locs → lv_has ls 9 [(0, .ref (ad 210)), (1, .int (nI B)), (2, .int (nI ((mn r)))), (3, .int (nI cN)), (4, .int (nI i))] → W pr l e (rmD 3 0 0) s m args below meth c H locs 0 0 Q (F0 m 20 ls []) := by
    intro n
    induction n with
    | zero =>
      intro i g1 g2
      exact absurd g1 (by omega)
    | succ n ih =>
      intro i g1 g2 x cN g hE H locs ls h hl
      obtain ⟨hLe, hc⟩ := hear_ok hE
      have hWx := hLe.WR hW0
      have hmx := hLe.mn
      refine lv_iload hx hb dX8_hears_20 (lv_at hl 4 rfl) ?_
      refine lv_iload_n hx hb dX8_hears_22 rfl (lv_at hl 2 rfl) ?_
      refine lv_icmp_ge (tgt := 87) hx hb dX8_hears_23 (by decide) (fun c_23 => ?_) (fun c_23 => ?_)
      · rw [nI_leI (by omega) (by omega)] at c_23
        refine lv_aload_n hx hb dX8_hears_87 rfl (lv_at hl 0 rfl) ?_
        refine fg_X8_7 X h dX8_hears_88 ?_
        refine lv_iload_n hx hb dX8_hears_91 rfl (lv_at hl 1 rfl) ?_
        refine lv_bipush (v := nI 11) hx hb dX8_hears_92 (by decide) ?_
        refine lv_iadd hx hb dX8_hears_94 ?_
        refine lv_as (y := nI (B + 11)) (nI_addc (by omega)) ?_
        refine lv_iconst (v := nI 0) hx hb dX8_hears_95 (by decide) ?_
        refine rs_st X h (11) (congrArg nI (by omega)) (by omega) dX8_hears_96 (fun H locs h => ?_)
        refine lv_iconst (v := nI 0) hx hb dX8_hears_97 (by decide) ?_
        refine lv_istore (lv' := [(4, .int (nI 0)), (0, .ref (ad 210)), (1, .int (nI B)), (2, .int (nI ((mn r)))), (3, .int (nI cN))]) hx hb dX8_hears_98 hl (by decide) rfl (fun ls hl => ?_)
        have hi : i = mn r := by omega
        rw [hi] at hE
        have LP2 : ∀ (n t : Nat), mn r + 1 ≤ t + n → t ≤ mn r → ∀ (y : Nat → Int32), ests x g t = y → ∀ (H : Heap) (locs : List Loc) (ls : Array Slot), HG J z ad s (RG (u1 (u1 G 213 og) 214 g) B y) H locs → lv_has ls 9 [(0, .ref (ad 210)), (1, .int (nI B)), (2, .int (nI ((mn r)))), (3, .int (nI cN)), (4, .int (nI t))] → W pr l e (rmD 3 0 0) s m args below meth c H locs 0 0 Q (F0 m 100 ls []) := by
          intro n
          induction n with
          | zero =>
            intro t g1 g2
            exact absurd g1 (by omega)
          | succ n ih2 =>
            intro t g3 g4 y hy H locs ls h hl
            subst hy
            obtain ⟨hEy, o, ho1, ho2⟩ := ests_ok (f := g) hWx (n := t) (by omega)
            have hWy := hEy.WR hWx ⟨o, by omega, ho2⟩
            have hmy := hEy.mn
            have hoy : on (ests x g t) ≤ t := by show tn _ ≤ t; rw [ho2, tn_nI (by omega)]; exact ho1
            obtain ⟨y, hy⟩ : ∃ y, y = ests x g t := ⟨_, rfl⟩
            rw [← hy] at h hEy hWy hmy hoy
            have hWy0 := hWy
            obtain ⟨⟨w1, w2⟩, ⟨-, w4⟩, ⟨w5, w6⟩, w7, w8⟩ := hWy0
            refine lv_iload hx hb dX8_hears_100 (lv_at hl 4 rfl) ?_
            refine lv_iload_n hx hb dX8_hears_102 rfl (lv_at hl 2 rfl) ?_
            refine lv_icmp_ge (tgt := 277) hx hb dX8_hears_103 (by decide) (fun c_103 => ?_) (fun c_103 => ?_)
            · rw [nI_leI (by omega) (by omega)] at c_103
              rw [show t = mn r by omega] at hy
              rw [hy] at h
              refine lv_aload_n hx hb dX8_hears_277 rfl (lv_at hl 0 rfl) ?_
              refine fg_X8_7 X h dX8_hears_278 ?_
              refine lv_iload_n hx hb dX8_hears_281 rfl (lv_at hl 1 rfl) ?_
              refine lv_bipush (v := nI 8) hx hb dX8_hears_282 (by decide) ?_
              refine lv_iadd hx hb dX8_hears_284 ?_
              refine lv_as (y := nI (B + 8)) (nI_addc (by omega)) ?_
              refine lv_dup2_11 hx hb dX8_hears_285 rfl rfl ?_
              refine rs_ld X h B (8) (congrArg nI (by omega)) (by omega) dX8_hears_286 ?_
              refine lv_as (y := (ests x g (mn r)) 8) (congrFun (RG_row (u1 (u1 G 213 og) 214 g) B (ests x g (mn r))) _) ?_
              refine lv_iload_n hx hb dX8_hears_287 rfl (lv_at hl 3 rfl) ?_
              refine lv_iadd hx hb dX8_hears_288 ?_
              refine rs_st X h (8) (congrArg nI (by omega)) (by omega) dX8_hears_289 (fun H locs h => ?_)
              refine lv_aload_n hx hb dX8_hears_290 rfl (lv_at hl 0 rfl) ?_
              refine fg_X8_7 X h dX8_hears_291 ?_
              refine lv_iload_n hx hb dX8_hears_294 rfl (lv_at hl 1 rfl) ?_
              refine lv_bipush (v := nI 9) hx hb dX8_hears_295 (by decide) ?_
              refine lv_iadd hx hb dX8_hears_297 ?_
              refine lv_as (y := nI (B + 9)) (nI_addc (by omega)) ?_
              refine lv_dup2_11 hx hb dX8_hears_298 rfl rfl ?_
              refine rs_ld X h B (9) (congrArg nI (by omega)) (by omega) dX8_hears_299 ?_
              refine lv_as (y := (ests x g (mn r)) 9) ((congrFun (RG_row (u1 (u1 G 213 og) 214 g) B (upd (ests x g (mn r)) 8 (((ests x g (mn r)) 8) + (nI cN)))) _).trans (by rw [upd_n (by omega)])) ?_
              refine lv_iload_n hx hb dX8_hears_300 rfl (lv_at hl 2 rfl) ?_
              refine lv_iload_n hx hb dX8_hears_301 rfl (lv_at hl 3 rfl) ?_
              refine lv_isub hx hb dX8_hears_302 ?_
              refine lv_iadd hx hb dX8_hears_303 ?_
              refine rs_st X h (9) (congrArg nI (by omega)) (by omega) dX8_hears_304 (fun H locs h => ?_)
              refine lv_iload_n hx hb dX8_hears_305 rfl (lv_at hl 3 rfl) ?_
              exact hret (nI cN) (RG (u1 (u1 G 213 og) 214 g) B (upd (upd (ests x g (mn r)) 8 (((ests x g (mn r)) 8) + (nI cN))) 9 (((ests x g (mn r)) 9) + ((nI ((mn r))) - (nI cN))))) _ _ 306 _ (⟨og, σ, hO, by rw [hE], by unfold hrow; rw [hE]⟩) h dX8_hears_306
            · rw [nI_leI (by omega) (by omega)] at c_103
              obtain ⟨v1, v2, v3, v4, v5, v6, v7, v8⟩ := w7 t (by omega)
              refine lv_iload_n hx hb dX8_hears_106 rfl (lv_at hl 1 rfl) ?_
              refine lv_iload hx hb dX8_hears_107 (lv_at hl 4 rfl) ?_
              refine rg_cisd (As := [.int (nI B), .int (nI t)]) (rest := []) X hl.1 h (c_X8_petitionAt l J z ad (RG (u1 (u1 G 213 og) 214 g) B y) B t) mw_261 mw_262 mw_5 mw_263 pdX8_petitionAt ⟨Nat.le_of_ble_eq_true rfl, Nat.le_of_ble_eq_true rfl⟩ ⟨Nat.le_of_ble_eq_true rfl, Nat.le_of_ble_eq_true rfl⟩ rfl (Nat.le_of_ble_eq_true rfl) dX8_hears_109 (fun H locs h => ?_)
              refine lv_as (y := nI (B + 5 * t + 84)) (congrArg nI (by omega)) ?_
              refine lv_istore (lv' := [(5, .int (nI (B + 5 * t + 84))), (0, .ref (ad 210)), (1, .int (nI B)), (2, .int (nI ((mn r)))), (3, .int (nI cN)), (4, .int (nI t))]) hx hb dX8_hears_112 hl (by decide) rfl (fun ls hl => ?_)
              refine lv_iload_n hx hb dX8_hears_114 rfl (lv_at hl 2 rfl) ?_
              refine lv_aload_n hx hb dX8_hears_115 rfl (lv_at hl 1 rfl) ?_
              refine fg_X8_7 X h dX8_hears_116 ?_
              refine lv_iload hx hb dX8_hears_119 (lv_at hl 0 rfl) ?_
              refine rs_ld X h B (5 * t + 84) (congrArg nI (by omega)) (by omega) dX8_hears_121 ?_
              refine lv_as (y := nI ((pd y t))) ((congrFun (RG_row (u1 (u1 G 213 og) 214 g) B y) _).trans (v1)) ?_
              refine rg_cisd (As := [.int (nI B), .int (nI ((pd y t)))]) (rest := []) X hl.1 h (c_X8_droneAt l J z ad (RG (u1 (u1 G 213 og) 214 g) B y) B (pd y t)) mw_190 mw_191 mw_5 mw_192 pdX8_droneAt ⟨Nat.le_of_ble_eq_true rfl, Nat.le_of_ble_eq_true rfl⟩ ⟨Nat.le_of_ble_eq_true rfl, Nat.le_of_ble_eq_true rfl⟩ rfl (Nat.le_of_ble_eq_true rfl) dX8_hears_122 (fun H locs h => ?_)
              refine lv_as (y := nI (B + 6 * (pd y t) + 12)) (congrArg nI (by omega)) ?_
              refine lv_istore (lv' := [(6, .int (nI (B + 6 * (pd y t) + 12))), (5, .int (nI (B + 5 * t + 84))), (0, .ref (ad 210)), (1, .int (nI B)), (2, .int (nI ((mn r)))), (3, .int (nI cN)), (4, .int (nI t))]) hx hb dX8_hears_125 hl (by decide) rfl (fun ls hl => ?_)
              refine lv_aload_n hx hb dX8_hears_127 rfl (lv_at hl 2 rfl) ?_
              refine fg_X8_26 X h dX8_hears_128 ?_
              refine lv_iload hx hb dX8_hears_131 (lv_at hl 6 rfl) ?_
              refine rg_ild X h 214 (by decide) (xa_214 J ad) (t) rfl (by omega) (by decide) dX8_hears_133 ?_
              refine lv_as (y := (u1 (u1 G 213 og) 214 g) 214 t) (RG_get (by decide)) ?_
              refine lv_as (y := g t) (rfl) ?_
              refine lv_if_le (tgt := 141) hx hb dX8_hears_134 (by decide) (fun c_134 => ?_) (fun c_134 => ?_)
              · refine lv_iconst (v := nI 0) hx hb dX8_hears_141 (by decide) ?_
                refine lv_istore (lv' := [(7, .int (nI 0)), (6, .int (nI (B + 6 * (pd y t) + 12))), (5, .int (nI (B + 5 * t + 84))), (0, .ref (ad 210)), (1, .int (nI B)), (2, .int (nI ((mn r)))), (3, .int (nI cN)), (4, .int (nI t))]) hx hb dX8_hears_142 hl (by decide) rfl (fun ls hl => ?_)
                refine lv_aload_n hx hb dX8_hears_144 rfl (lv_at hl 3 rfl) ?_
                refine fg_X8_7 X h dX8_hears_145 ?_
                refine lv_iload hx hb dX8_hears_148 (lv_at hl 1 rfl) ?_
                refine lv_iload hx hb dX8_hears_150 (lv_at hl 0 rfl) ?_
                refine lv_if_eq (tgt := 159) hx hb dX8_hears_152 (by decide) (fun c_152 => ?_) (fun c_152 => absurd (by decide) c_152)
                refine lv_iconst (v := nI 4) hx hb dX8_hears_159 (by decide) ?_
                refine lv_iadd hx hb dX8_hears_160 ?_
                refine lv_as (y := nI (B + 6 * (pd y t) + 16)) (nI_addc (by omega)) ?_
                refine lv_dup2_11 hx hb dX8_hears_161 rfl rfl ?_
                refine rs_ld X h B (6 * (pd y t) + 16) (congrArg nI (by omega)) (by omega) dX8_hears_162 ?_
                refine lv_as (y := y (6 * (pd y t) + 16)) (congrFun (RG_row (u1 (u1 G 213 og) 214 g) B y) _) ?_
                refine lv_iconst (v := nI 1) hx hb dX8_hears_163 (by decide) ?_
                refine lv_iadd hx hb dX8_hears_164 ?_
                refine rs_st X h (6 * (pd y t) + 16) (congrArg nI (by omega)) (by omega) dX8_hears_165 (fun H locs h => ?_)
                refine lv_iload hx hb dX8_hears_166 (lv_at hl 0 rfl) ?_
                refine lv_if_eq (tgt := 271) hx hb dX8_hears_168 (by decide) (fun c_168 => ?_) (fun c_168 => absurd (by decide) c_168)
                refine lv_iinc (v := nI (t + 1)) (lv' := [(4, .int (nI (t + 1))), (7, .int (nI 0)), (6, .int (nI (B + 6 * (pd y t) + 12))), (5, .int (nI (B + 5 * t + 84))), (0, .ref (ad 210)), (1, .int (nI B)), (2, .int (nI ((mn r)))), (3, .int (nI cN))]) hx hb dX8_hears_271 hl (k := 7) rfl (nI_addc (b := 1) (by omega)) (by decide) rfl (fun ls hl => ?_)
                refine lv_goto (tgt := 100) hx hb dX8_hears_274 (by decide) ?_
                have hst : est g t y = upd y (6 * (pd y t) + 16) ((y (6 * (pd y t) + 16)) + (nI 1)) := by
                  unfold est
                  rw [if_neg (Int32.not_lt.mpr c_134)]
                rw [← hst] at h
                exact ih2 (t + 1) (by omega) (by omega) (est g t y) (by rw [hy]; rfl) _ _ _ h (lv_sub hl [4, 5, 6, 7, 0] rfl)
              · refine lv_iconst (v := nI 1) hx hb dX8_hears_137 (by decide) ?_
                refine lv_goto (tgt := 142) hx hb dX8_hears_138 (by decide) ?_
                refine lv_istore (lv' := [(7, .int (nI 1)), (6, .int (nI (B + 6 * (pd y t) + 12))), (5, .int (nI (B + 5 * t + 84))), (0, .ref (ad 210)), (1, .int (nI B)), (2, .int (nI ((mn r)))), (3, .int (nI cN)), (4, .int (nI t))]) hx hb dX8_hears_142 hl (by decide) rfl (fun ls hl => ?_)
                refine lv_aload_n hx hb dX8_hears_144 rfl (lv_at hl 3 rfl) ?_
                refine fg_X8_7 X h dX8_hears_145 ?_
                refine lv_iload hx hb dX8_hears_148 (lv_at hl 1 rfl) ?_
                refine lv_iload hx hb dX8_hears_150 (lv_at hl 0 rfl) ?_
                refine lv_if_eq (tgt := 159) hx hb dX8_hears_152 (by decide) (fun c_152 => absurd c_152 (by decide)) (fun c_152 => ?_)
                refine lv_iconst (v := nI 5) hx hb dX8_hears_155 (by decide) ?_
                refine lv_goto (tgt := 160) hx hb dX8_hears_156 (by decide) ?_
                refine lv_iadd hx hb dX8_hears_160 ?_
                refine lv_as (y := nI (B + 6 * (pd y t) + 17)) (nI_addc (by omega)) ?_
                refine lv_dup2_11 hx hb dX8_hears_161 rfl rfl ?_
                refine rs_ld X h B (6 * (pd y t) + 17) (congrArg nI (by omega)) (by omega) dX8_hears_162 ?_
                refine lv_as (y := y (6 * (pd y t) + 17)) (congrFun (RG_row (u1 (u1 G 213 og) 214 g) B y) _) ?_
                refine lv_iconst (v := nI 1) hx hb dX8_hears_163 (by decide) ?_
                refine lv_iadd hx hb dX8_hears_164 ?_
                refine rs_st X h (6 * (pd y t) + 17) (congrArg nI (by omega)) (by omega) dX8_hears_165 (fun H locs h => ?_)
                refine lv_iload hx hb dX8_hears_166 (lv_at hl 0 rfl) ?_
                refine lv_if_eq (tgt := 271) hx hb dX8_hears_168 (by decide) (fun c_168 => absurd c_168 (by decide)) (fun c_168 => ?_)
                refine lv_iload_n hx hb dX8_hears_171 rfl (lv_at hl 4 rfl) ?_
                refine lv_sipush (v := nI 144) hx hb dX8_hears_172 (by decide) ?_
                refine lv_iadd hx hb dX8_hears_175 ?_
                refine lv_as (y := nI (B + 144)) (nI_addc (by omega)) ?_
                refine lv_iconst (v := nI 4) hx hb dX8_hears_176 (by decide) ?_
                refine lv_aload_n hx hb dX8_hears_177 rfl (lv_at hl 3 rfl) ?_
                refine fg_X8_7 X h dX8_hears_178 ?_
                refine lv_iload_n hx hb dX8_hears_181 rfl (lv_at hl 4 rfl) ?_
                refine lv_bipush (v := nI 11) hx hb dX8_hears_182 (by decide) ?_
                refine lv_iadd hx hb dX8_hears_184 ?_
                refine lv_as (y := nI (B + 11)) (nI_addc (by omega)) ?_
                refine rs_ld X h B (11) (congrArg nI (by omega)) (by omega) dX8_hears_185 ?_
                refine lv_as (y := nI ((on y))) (((congrFun (RG_row (u1 (u1 G 213 og) 214 g) B (upd y (6 * (pd y t) + 17) ((y (6 * (pd y t) + 17)) + (nI 1)))) _).trans (by rw [upd_n (by omega)])).trans (w5)) ?_
                refine lv_imul hx hb dX8_hears_186 ?_
                refine lv_as (y := nI (4 * (on y))) (nI_mulc (by omega)) ?_
                refine lv_iadd hx hb dX8_hears_187 ?_
                refine lv_as (y := nI (B + 4 * (on y) + 144)) (nI_addc (by omega)) ?_
                refine lv_istore (lv' := [(8, .int (nI (B + 4 * (on y) + 144))), (7, .int (nI 1)), (6, .int (nI (B + 6 * (pd y t) + 12))), (5, .int (nI (B + 5 * t + 84))), (0, .ref (ad 210)), (1, .int (nI B)), (2, .int (nI ((mn r)))), (3, .int (nI cN)), (4, .int (nI t))]) hx hb dX8_hears_188 hl (by decide) rfl (fun ls hl => ?_)
                refine lv_aload_n hx hb dX8_hears_190 rfl (lv_at hl 4 rfl) ?_
                refine fg_X8_7 X h dX8_hears_191 ?_
                refine lv_iload hx hb dX8_hears_194 (lv_at hl 0 rfl) ?_
                refine lv_aload_n hx hb dX8_hears_196 rfl (lv_at hl 4 rfl) ?_
                refine fg_X8_7 X h dX8_hears_197 ?_
                refine lv_iload hx hb dX8_hears_200 (lv_at hl 3 rfl) ?_
                refine lv_iconst (v := nI 1) hx hb dX8_hears_202 (by decide) ?_
                refine lv_iadd hx hb dX8_hears_203 ?_
                refine lv_as (y := nI (B + 5 * t + 85)) (nI_addc (by omega)) ?_
                refine rs_ld X h B (5 * t + 85) (congrArg nI (by omega)) (by omega) dX8_hears_204 ?_
                refine lv_as (y := nI ((pc y t))) (((congrFun (RG_row (u1 (u1 G 213 og) 214 g) B (upd y (6 * (pd y t) + 17) ((y (6 * (pd y t) + 17)) + (nI 1)))) _).trans (by rw [upd_n (by omega)])).trans (v3)) ?_
                refine rs_st X h (4 * (on y) + 144) (congrArg nI (by omega)) (by omega) dX8_hears_205 (fun H locs h => ?_)
                refine lv_aload_n hx hb dX8_hears_206 rfl (lv_at hl 4 rfl) ?_
                refine fg_X8_7 X h dX8_hears_207 ?_
                refine lv_iload hx hb dX8_hears_210 (lv_at hl 0 rfl) ?_
                refine lv_iconst (v := nI 1) hx hb dX8_hears_212 (by decide) ?_
                refine lv_iadd hx hb dX8_hears_213 ?_
                refine lv_as (y := nI (B + 4 * (on y) + 145)) (nI_addc (by omega)) ?_
                refine lv_aload_n hx hb dX8_hears_214 rfl (lv_at hl 4 rfl) ?_
                refine fg_X8_7 X h dX8_hears_215 ?_
                refine lv_iload hx hb dX8_hears_218 (lv_at hl 3 rfl) ?_
                refine lv_iconst (v := nI 2) hx hb dX8_hears_220 (by decide) ?_
                refine lv_iadd hx hb dX8_hears_221 ?_
                refine lv_as (y := nI (B + 5 * t + 86)) (nI_addc (by omega)) ?_
                refine rs_ld X h B (5 * t + 86) (congrArg nI (by omega)) (by omega) dX8_hears_222 ?_
                refine lv_as (y := nI ((pg y t))) (((congrFun (RG_row (u1 (u1 G 213 og) 214 g) B (upd (upd y (6 * (pd y t) + 17) ((y (6 * (pd y t) + 17)) + (nI 1))) (4 * (on y) + 144) (nI ((pc y t))))) _).trans (by rw [upd_n (by omega), upd_n (by omega)])).trans (v5)) ?_
                refine rs_st X h (4 * (on y) + 145) (congrArg nI (by omega)) (by omega) dX8_hears_223 (fun H locs h => ?_)
                refine lv_aload_n hx hb dX8_hears_224 rfl (lv_at hl 4 rfl) ?_
                refine fg_X8_7 X h dX8_hears_225 ?_
                refine lv_iload hx hb dX8_hears_228 (lv_at hl 0 rfl) ?_
                refine lv_iconst (v := nI 2) hx hb dX8_hears_230 (by decide) ?_
                refine lv_iadd hx hb dX8_hears_231 ?_
                refine lv_as (y := nI (B + 4 * (on y) + 146)) (nI_addc (by omega)) ?_
                refine lv_aload_n hx hb dX8_hears_232 rfl (lv_at hl 4 rfl) ?_
                refine fg_X8_7 X h dX8_hears_233 ?_
                refine lv_iload hx hb dX8_hears_236 (lv_at hl 3 rfl) ?_
                refine lv_iconst (v := nI 3) hx hb dX8_hears_238 (by decide) ?_
                refine lv_iadd hx hb dX8_hears_239 ?_
                refine lv_as (y := nI (B + 5 * t + 87)) (nI_addc (by omega)) ?_
                refine rs_ld X h B (5 * t + 87) (congrArg nI (by omega)) (by omega) dX8_hears_240 ?_
                refine lv_as (y := nI ((pk y t))) (((congrFun (RG_row (u1 (u1 G 213 og) 214 g) B (upd (upd (upd y (6 * (pd y t) + 17) ((y (6 * (pd y t) + 17)) + (nI 1))) (4 * (on y) + 144) (nI ((pc y t)))) (4 * (on y) + 145) (nI ((pg y t))))) _).trans (by rw [upd_n (by omega), upd_n (by omega), upd_n (by omega)])).trans (v7)) ?_
                refine rs_st X h (4 * (on y) + 146) (congrArg nI (by omega)) (by omega) dX8_hears_241 (fun H locs h => ?_)
                refine lv_aload_n hx hb dX8_hears_242 rfl (lv_at hl 4 rfl) ?_
                refine fg_X8_7 X h dX8_hears_243 ?_
                refine lv_iload hx hb dX8_hears_246 (lv_at hl 0 rfl) ?_
                refine lv_iconst (v := nI 3) hx hb dX8_hears_248 (by decide) ?_
                refine lv_iadd hx hb dX8_hears_249 ?_
                refine lv_as (y := nI (B + 4 * (on y) + 147)) (nI_addc (by omega)) ?_
                refine lv_aload_n hx hb dX8_hears_250 rfl (lv_at hl 4 rfl) ?_
                refine lv_iload_n hx hb dX8_hears_251 rfl (lv_at hl 5 rfl) ?_
                refine lv_iload hx hb dX8_hears_252 (lv_at hl 8 rfl) ?_
                have hEs : EstEq y (upd (upd (upd (upd y (6 * (pd y t) + 17) ((y (6 * (pd y t) + 17)) + (nI 1))) (4 * (on y) + 144) (nI ((pc y t)))) (4 * (on y) + 145) (nI ((pg y t)))) (4 * (on y) + 146) (nI ((pk y t)))) := by
                  intro k hk
                  rw [upd_n (by omega), upd_n (by omega), upd_n (by omega), upd_n (by omega)]
                have hWs := hEs.WR hWy ⟨on y, by omega, by rw [upd_n (by omega), upd_n (by omega), upd_n (by omega), upd_n (by omega)]; exact w5⟩
                have hqs : t < mn (upd (upd (upd (upd y (6 * (pd y t) + 17) ((y (6 * (pd y t) + 17)) + (nI 1))) (4 * (on y) + 144) (nI ((pc y t)))) (4 * (on y) + 145) (nI ((pg y t)))) (4 * (on y) + 146) (nI ((pk y t)))) := by rw [hEs.mn, hmy]; omega
                refine rg_civd (As := [.int (nI B), .int (nI t)]) (rest := [.int (nI (B + 4 * (on y) + 147)), .ref (ad 211)]) X hl.1 h (c_X8_support l J z ad (RG (u1 (u1 G 213 og) 214 g) B (upd (upd (upd (upd y (6 * (pd y t) + 17) ((y (6 * (pd y t) + 17)) + (nI 1))) (4 * (on y) + 144) (nI ((pc y t)))) (4 * (on y) + 145) (nI ((pg y t)))) (4 * (on y) + 146) (nI ((pk y t))))) (upd (upd (upd (upd y (6 * (pd y t) + 17) ((y (6 * (pd y t) + 17)) + (nI 1))) (4 * (on y) + 144) (nI ((pc y t)))) (4 * (on y) + 145) (nI ((pg y t)))) (4 * (on y) + 146) (nI ((pk y t)))) B hB (RG_row (u1 (u1 G 213 og) 214 g) B _) hWs t hqs) mw_291 mw_292 mw_293 mw_5 mw_294 pdX8_support (by decide) (xo_210 J ad _) rfl rfl ⟨Nat.le_of_ble_eq_true rfl, Nat.le_of_ble_eq_true rfl⟩ ⟨Nat.le_of_ble_eq_true rfl, Nat.le_of_ble_eq_true rfl⟩ rfl (Nat.le_of_ble_eq_true rfl) dX8_hears_254 (fun H locs h => ?_)
                refine lv_as (y := supp y t) (hEs.supp hWy (by omega)) ?_
                refine rs_st X h (4 * (on y) + 147) (congrArg nI (by omega)) (by omega) dX8_hears_257 (fun H locs h => ?_)
                refine lv_aload_n hx hb dX8_hears_258 rfl (lv_at hl 4 rfl) ?_
                refine fg_X8_7 X h dX8_hears_259 ?_
                refine lv_iload_n hx hb dX8_hears_262 rfl (lv_at hl 5 rfl) ?_
                refine lv_bipush (v := nI 11) hx hb dX8_hears_263 (by decide) ?_
                refine lv_iadd hx hb dX8_hears_265 ?_
                refine lv_as (y := nI (B + 11)) (nI_addc (by omega)) ?_
                refine lv_dup2_11 hx hb dX8_hears_266 rfl rfl ?_
                refine rs_ld X h B (11) (congrArg nI (by omega)) (by omega) dX8_hears_267 ?_
                refine lv_as (y := nI ((on y))) (((congrFun (RG_row (u1 (u1 G 213 og) 214 g) B (upd (upd (upd (upd (upd y (6 * (pd y t) + 17) ((y (6 * (pd y t) + 17)) + (nI 1))) (4 * (on y) + 144) (nI ((pc y t)))) (4 * (on y) + 145) (nI ((pg y t)))) (4 * (on y) + 146) (nI ((pk y t)))) (4 * (on y) + 147) (supp y t))) _).trans (by rw [upd_n (by omega), upd_n (by omega), upd_n (by omega), upd_n (by omega), upd_n (by omega)])).trans (w5)) ?_
                refine lv_iconst (v := nI 1) hx hb dX8_hears_268 (by decide) ?_
                refine lv_iadd hx hb dX8_hears_269 ?_
                refine lv_as (y := nI ((on y) + 1)) (nI_addc (by omega)) ?_
                refine rs_st X h (11) (congrArg nI (by omega)) (by omega) dX8_hears_270 (fun H locs h => ?_)
                refine lv_iinc (v := nI (t + 1)) (lv' := [(4, .int (nI (t + 1))), (8, .int (nI (B + 4 * (on y) + 144))), (7, .int (nI 1)), (6, .int (nI (B + 6 * (pd y t) + 12))), (5, .int (nI (B + 5 * t + 84))), (0, .ref (ad 210)), (1, .int (nI B)), (2, .int (nI ((mn r)))), (3, .int (nI cN))]) hx hb dX8_hears_271 hl (k := 8) rfl (nI_addc (b := 1) (by omega)) (by decide) rfl (fun ls hl => ?_)
                refine lv_goto (tgt := 100) hx hb dX8_hears_274 (by decide) ?_
                have hst : est g t y = upd (upd (upd (upd (upd (upd y (6 * (pd y t) + 17) ((y (6 * (pd y t) + 17)) + (nI 1))) (4 * (on y) + 144) (nI ((pc y t)))) (4 * (on y) + 145) (nI ((pg y t)))) (4 * (on y) + 146) (nI ((pk y t)))) (4 * (on y) + 147) (supp y t)) 11 (nI ((on y) + 1)) := by
                  unfold est
                  rw [if_pos (Int32.not_le.mp c_134)]
                rw [← hst] at h
                exact ih2 (t + 1) (by omega) (by omega) (est g t y) (by rw [hy]; rfl) _ _ _ h (lv_sub hl [5, 6, 7, 8, 0] rfl)
        exact LP2 (mn r + 1) 0 (by omega) (by omega) (upd x 11 (nI 0)) rfl _ _ _ h (lv_sub hl [1, 2, 3, 4, 0] rfl)
      · rw [nI_leI (by omega) (by omega)] at c_23
        refine lv_aload_n hx hb dX8_hears_26 rfl (lv_at hl 0 rfl) ?_
        refine fg_X8_23 X h dX8_hears_27 ?_
        refine lv_iload hx hb dX8_hears_30 (lv_at hl 4 rfl) ?_
        refine rg_ild X h 213 (by decide) (xa_213 J ad) (i) rfl (by omega) (by decide) dX8_hears_32 ?_
        refine lv_as (y := (u1 (u1 G 213 og) 214 g) 213 i) (RG_get (by decide)) ?_
        refine lv_as (y := nI ((σ i))) (ho i (by omega)) ?_
        refine lv_istore (lv' := [(5, .int (nI ((σ i)))), (0, .ref (ad 210)), (1, .int (nI B)), (2, .int (nI ((mn r)))), (3, .int (nI cN)), (4, .int (nI i))]) hx hb dX8_hears_33 hl (by decide) rfl (fun ls hl => ?_)
        refine lv_aload_n hx hb dX8_hears_35 rfl (lv_at hl 1 rfl) ?_
        refine lv_iload_n hx hb dX8_hears_36 rfl (lv_at hl 2 rfl) ?_
        refine lv_iload hx hb dX8_hears_37 (lv_at hl 0 rfl) ?_
        refine rg_civd (As := [.int (nI B), .int (nI ((σ i)))]) (rest := []) X hl.1 h (c_X8_support l J z ad (RG (u1 (u1 G 213 og) 214 g) B x) x B hB (RG_row (u1 (u1 G 213 og) 214 g) B x) hWx (σ i) (by rw [hmx]; exact hO.1 i (by omega))) mw_291 mw_292 mw_293 mw_5 mw_294 pdX8_support (by decide) (xo_210 J ad _) rfl rfl ⟨Nat.le_of_ble_eq_true rfl, Nat.le_of_ble_eq_true rfl⟩ ⟨Nat.le_of_ble_eq_true rfl, Nat.le_of_ble_eq_true rfl⟩ rfl (Nat.le_of_ble_eq_true rfl) dX8_hears_39 (fun H locs h => ?_)
        refine lv_istore (lv' := [(6, .int (supp x (σ i))), (5, .int (nI ((σ i)))), (0, .ref (ad 210)), (1, .int (nI B)), (2, .int (nI ((mn r)))), (3, .int (nI cN)), (4, .int (nI i))]) hx hb dX8_hears_42 hl (by decide) rfl (fun ls hl => ?_)
        refine lv_aload_n hx hb dX8_hears_44 rfl (lv_at hl 2 rfl) ?_
        refine lv_iload_n hx hb dX8_hears_45 rfl (lv_at hl 3 rfl) ?_
        refine lv_iload hx hb dX8_hears_46 (lv_at hl 1 rfl) ?_
        refine lv_iload hx hb dX8_hears_48 (lv_at hl 0 rfl) ?_
        refine rg_civd (As := [.int (nI B), .int (nI ((σ i))), .int (supp x (σ i))]) (rest := []) X hl.1 h (c_X8_refusal l J z ad (RG (u1 (u1 G 213 og) 214 g) B x) x B hB (RG_row (u1 (u1 G 213 og) 214 g) B x) hWx (σ i) (by rw [hmx]; exact hO.1 i (by omega)) (supp x (σ i))) mw_382 mw_383 mw_384 mw_5 mw_385 pdX8_refusal (by decide) (xo_210 J ad _) rfl rfl ⟨Nat.le_of_ble_eq_true rfl, Nat.le_of_ble_eq_true rfl⟩ ⟨Nat.le_of_ble_eq_true rfl, Nat.le_of_ble_eq_true rfl⟩ rfl (Nat.le_of_ble_eq_true rfl) dX8_hears_50 (fun H locs h => ?_)
        refine lv_istore (lv' := [(7, .int (refu x (σ i) (supp x (σ i)))), (6, .int (supp x (σ i))), (5, .int (nI ((σ i)))), (0, .ref (ad 210)), (1, .int (nI B)), (2, .int (nI ((mn r)))), (3, .int (nI cN)), (4, .int (nI i))]) hx hb dX8_hears_53 hl (by decide) rfl (fun ls hl => ?_)
        refine lv_aload_n hx hb dX8_hears_55 rfl (lv_at hl 3 rfl) ?_
        refine fg_X8_26 X h dX8_hears_56 ?_
        refine lv_iload hx hb dX8_hears_59 (lv_at hl 2 rfl) ?_
        refine lv_iload hx hb dX8_hears_61 (lv_at hl 0 rfl) ?_
        refine rg_ist X h 214 (by decide) (xa_214 J ad) ((σ i)) rfl (by have := hO.1 i (by omega); omega) (by decide) dX8_hears_63 (fun H locs h => ?_)
        rw [RG_put (by decide)] at h
        rw [u1_uu] at h
        refine lv_iload hx hb dX8_hears_64 (lv_at hl 0 rfl) ?_
        refine lv_if_ne (tgt := 81) hx hb dX8_hears_66 (by decide) (fun c_66 => ?_) (fun c_66 => ?_)
        · refine lv_iinc (v := nI (i + 1)) (lv' := [(4, .int (nI (i + 1))), (7, .int (refu x (σ i) (supp x (σ i)))), (6, .int (supp x (σ i))), (5, .int (nI ((σ i)))), (0, .ref (ad 210)), (1, .int (nI B)), (2, .int (nI ((mn r)))), (3, .int (nI cN))]) hx hb dX8_hears_81 hl (k := 7) rfl (nI_addc (b := 1) (by omega)) (by decide) rfl (fun ls hl => ?_)
          refine lv_goto (tgt := 20) hx hb dX8_hears_84 (by decide) ?_
          exact ih (i + 1) (by omega) (by omega) _ _ _ (hear_neg hE c_66) _ _ _ h (lv_sub hl [4, 5, 6, 7, 0] rfl)
        · refine lv_aload_n hx hb dX8_hears_69 rfl (lv_at hl 3 rfl) ?_
          refine lv_iload_n hx hb dX8_hears_70 rfl (lv_at hl 4 rfl) ?_
          refine lv_iload hx hb dX8_hears_71 (lv_at hl 2 rfl) ?_
          refine lv_iload hx hb dX8_hears_73 (lv_at hl 1 rfl) ?_
          refine rg_cvvd (As := [.int (nI B), .int (nI ((σ i))), .int (supp x (σ i))]) (rest := []) X hl.1 h (c_X8_passes l J z ad (u1 (u1 G 213 og) 214 (upd g (σ i) (refu x (σ i) (supp x (σ i))))) x B hB hWx (σ i) (by rw [hmx]; exact hO.1 i (by omega)) (supp x (σ i))) mw_397 mw_398 mw_399 mw_5 mw_400 pdX8_passes (by decide) (xo_210 J ad _) rfl rfl ⟨Nat.le_of_ble_eq_true rfl, Nat.le_of_ble_eq_true rfl⟩ ⟨Nat.le_of_ble_eq_true rfl, Nat.le_of_ble_eq_true rfl⟩ rfl (Nat.le_of_ble_eq_true rfl) dX8_hears_75 (fun H locs h => ?_)
          refine lv_iinc (v := nI (cN + 1)) (lv' := [(3, .int (nI (cN + 1))), (7, .int (refu x (σ i) (supp x (σ i)))), (6, .int (supp x (σ i))), (5, .int (nI ((σ i)))), (0, .ref (ad 210)), (1, .int (nI B)), (2, .int (nI ((mn r)))), (4, .int (nI i))]) hx hb dX8_hears_78 hl (k := 6) rfl (nI_addc (b := 1) (by omega)) (by decide) rfl (fun ls hl => ?_)
          refine lv_iinc (v := nI (i + 1)) (lv' := [(4, .int (nI (i + 1))), (3, .int (nI (cN + 1))), (7, .int (refu x (σ i) (supp x (σ i)))), (6, .int (supp x (σ i))), (5, .int (nI ((σ i)))), (0, .ref (ad 210)), (1, .int (nI B)), (2, .int (nI ((mn r))))]) hx hb dX8_hears_81 hl (k := 7) rfl (nI_addc (b := 1) (by omega)) (by decide) rfl (fun ls hl => ?_)
          refine lv_goto (tgt := 20) hx hb dX8_hears_84 (by decide) ?_
          exact ih (i + 1) (by omega) (by omega) _ _ _ (hear_pos hE c_66) _ _ _ h (lv_sub hl [5, 6, 7, 1, 0] rfl)
  exact LP (mn r + 1) 0 (by omega) (by omega) r 0 (G 214) rfl _ _ _ h (lv_sub hl [3, 4, 2, 1, 0] rfl)
end
