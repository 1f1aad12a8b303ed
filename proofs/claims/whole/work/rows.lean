section
-- ===== PART A: goes FIRST, ahead of the names: the tables' words, and 'selects' of the private methods out of them =====
/-- a private method of a class that the tables say can be made, by its rows of tables_1 -/
def lw_okq (q : MethodName × Nat) : Prop := (q.1.cls ≠ "java/lang/invoke/MethodHandle" ∧ q.1.cls ≠ "java/lang/invoke/VarHandle") ∧ Cond.instantiable q.1.cls q.2 ∈ tables_1 ∧ Cond.privateMethod q.1 ∈ tables_1 ∧ Cond.instanceMethod q.1 ∈ tables_1
theorem lw_p0 : lw_okq (⟨"HiveBylaws", "recorded", "(I)I"⟩, 9) := ⟨⟨by decide +kernel, by decide +kernel⟩, List.mem_of_getElem? (i := 12) (by decide +kernel), List.mem_of_getElem? (i := 326) (by decide +kernel), List.mem_of_getElem? (i := 327) (by decide +kernel)⟩
theorem lw_p1 : lw_okq (⟨"HiveBylaws$State", "endSeason", "()I"⟩, 10) := ⟨⟨by decide +kernel, by decide +kernel⟩, List.mem_of_getElem? (i := 20) (by decide +kernel), List.mem_of_getElem? (i := 390) (by decide +kernel), List.mem_of_getElem? (i := 391) (by decide +kernel)⟩
theorem lw_p2 : lw_okq (⟨"HiveBylaws$Petitions", "rankOf", "(I)I"⟩, 7) := ⟨⟨by decide +kernel, by decide +kernel⟩, List.mem_of_getElem? (i := 86) (by decide +kernel), List.mem_of_getElem? (i := 402) (by decide +kernel), List.mem_of_getElem? (i := 403) (by decide +kernel)⟩
theorem lw_p3 : lw_okq (⟨"HiveBylaws$State", "grant", "(I)V"⟩, 10) := ⟨⟨by decide +kernel, by decide +kernel⟩, List.mem_of_getElem? (i := 20) (by decide +kernel), List.mem_of_getElem? (i := 426) (by decide +kernel), List.mem_of_getElem? (i := 427) (by decide +kernel)⟩
theorem lw_p4 : lw_okq (⟨"HiveBylaws$PetitionText", "readThing", "(I)Z"⟩, 9) := ⟨⟨by decide +kernel, by decide +kernel⟩, List.mem_of_getElem? (i := 215) (by decide +kernel), List.mem_of_getElem? (i := 466) (by decide +kernel), List.mem_of_getElem? (i := 467) (by decide +kernel)⟩
theorem lw_p5 : lw_okq (⟨"HiveBylaws$PetitionText", "skip", "(C)Z"⟩, 9) := ⟨⟨by decide +kernel, by decide +kernel⟩, List.mem_of_getElem? (i := 215) (by decide +kernel), List.mem_of_getElem? (i := 470) (by decide +kernel), List.mem_of_getElem? (i := 471) (by decide +kernel)⟩
theorem lw_p6 : lw_okq (⟨"HiveBylaws$PetitionText", "readPetition", "(I)Z"⟩, 9) := ⟨⟨by decide +kernel, by decide +kernel⟩, List.mem_of_getElem? (i := 215) (by decide +kernel), List.mem_of_getElem? (i := 474) (by decide +kernel), List.mem_of_getElem? (i := 475) (by decide +kernel)⟩
theorem lw_p7 : lw_okq (⟨"HiveBylaws$PetitionText", "readNumber", "(II)I"⟩, 9) := ⟨⟨by decide +kernel, by decide +kernel⟩, List.mem_of_getElem? (i := 215) (by decide +kernel), List.mem_of_getElem? (i := 478) (by decide +kernel), List.mem_of_getElem? (i := 479) (by decide +kernel)⟩
theorem lw_p8 : lw_okq (⟨"HiveBylaws$PetitionText", "digitHere", "()I"⟩, 9) := ⟨⟨by decide +kernel, by decide +kernel⟩, List.mem_of_getElem? (i := 215) (by decide +kernel), List.mem_of_getElem? (i := 482) (by decide +kernel), List.mem_of_getElem? (i := 483) (by decide +kernel)⟩
theorem lw_p9 : lw_okq (⟨"HiveBylaws$PetitionText", "readKind", "()I"⟩, 9) := ⟨⟨by decide +kernel, by decide +kernel⟩, List.mem_of_getElem? (i := 215) (by decide +kernel), List.mem_of_getElem? (i := 486) (by decide +kernel), List.mem_of_getElem? (i := 487) (by decide +kernel)⟩
theorem lw_p10 : lw_okq (⟨"HiveBylaws$PetitionText", "readSeconding", "(I)Z"⟩, 9) := ⟨⟨by decide +kernel, by decide +kernel⟩, List.mem_of_getElem? (i := 215) (by decide +kernel), List.mem_of_getElem? (i := 490) (by decide +kernel), List.mem_of_getElem? (i := 491) (by decide +kernel)⟩
theorem lw_p11 : lw_okq (⟨"HiveBylaws", "doThing", "(I)I"⟩, 9) := ⟨⟨by decide +kernel, by decide +kernel⟩, List.mem_of_getElem? (i := 12) (by decide +kernel), List.mem_of_getElem? (i := 494) (by decide +kernel), List.mem_of_getElem? (i := 495) (by decide +kernel)⟩
theorem lw_p12 : lw_okq (⟨"HiveBylawsModel", "copies", "(II)V"⟩, 15) := ⟨⟨by decide +kernel, by decide +kernel⟩, List.mem_of_getElem? (i := 620) (by decide +kernel), List.mem_of_getElem? (i := 676) (by decide +kernel), List.mem_of_getElem? (i := 677) (by decide +kernel)⟩
theorem lw_p13 : lw_okq (⟨"HiveBylawsModel", "comes", "(II)I"⟩, 15) := ⟨⟨by decide +kernel, by decide +kernel⟩, List.mem_of_getElem? (i := 620) (by decide +kernel), List.mem_of_getElem? (i := 680) (by decide +kernel), List.mem_of_getElem? (i := 681) (by decide +kernel)⟩
theorem lw_p14 : lw_okq (⟨"HiveBylawsModel", "done", "(I)I"⟩, 15) := ⟨⟨by decide +kernel, by decide +kernel⟩, List.mem_of_getElem? (i := 620) (by decide +kernel), List.mem_of_getElem? (i := 693) (by decide +kernel), List.mem_of_getElem? (i := 694) (by decide +kernel)⟩
theorem lw_p15 : lw_okq (⟨"HiveBylawsModel", "records", "(I)V"⟩, 15) := ⟨⟨by decide +kernel, by decide +kernel⟩, List.mem_of_getElem? (i := 620) (by decide +kernel), List.mem_of_getElem? (i := 697) (by decide +kernel), List.mem_of_getElem? (i := 698) (by decide +kernel)⟩
def lw_privs_1 : List (MethodName × Nat) := [(⟨"HiveBylaws", "recorded", "(I)I"⟩, 9), (⟨"HiveBylaws$State", "endSeason", "()I"⟩, 10), (⟨"HiveBylaws$Petitions", "rankOf", "(I)I"⟩, 7), (⟨"HiveBylaws$State", "grant", "(I)V"⟩, 10), (⟨"HiveBylaws$PetitionText", "readThing", "(I)Z"⟩, 9), (⟨"HiveBylaws$PetitionText", "skip", "(C)Z"⟩, 9), (⟨"HiveBylaws$PetitionText", "readPetition", "(I)Z"⟩, 9), (⟨"HiveBylaws$PetitionText", "readNumber", "(II)I"⟩, 9), (⟨"HiveBylaws$PetitionText", "digitHere", "()I"⟩, 9), (⟨"HiveBylaws$PetitionText", "readKind", "()I"⟩, 9), (⟨"HiveBylaws$PetitionText", "readSeconding", "(I)Z"⟩, 9), (⟨"HiveBylaws", "doThing", "(I)I"⟩, 9), (⟨"HiveBylawsModel", "copies", "(II)V"⟩, 15), (⟨"HiveBylawsModel", "comes", "(II)I"⟩, 15), (⟨"HiveBylawsModel", "done", "(I)I"⟩, 15), (⟨"HiveBylawsModel", "records", "(I)V"⟩, 15)]
theorem lw_r1 : ∀ q ∈ lw_privs_1, lw_okq q := List.forall_mem_cons.mpr ⟨lw_p0, List.forall_mem_cons.mpr ⟨lw_p1, List.forall_mem_cons.mpr ⟨lw_p2, List.forall_mem_cons.mpr ⟨lw_p3, List.forall_mem_cons.mpr ⟨lw_p4, List.forall_mem_cons.mpr ⟨lw_p5, List.forall_mem_cons.mpr ⟨lw_p6, List.forall_mem_cons.mpr ⟨lw_p7, List.forall_mem_cons.mpr ⟨lw_p8, List.forall_mem_cons.mpr ⟨lw_p9, List.forall_mem_cons.mpr ⟨lw_p10, List.forall_mem_cons.mpr ⟨lw_p11, List.forall_mem_cons.mpr ⟨lw_p12, List.forall_mem_cons.mpr ⟨lw_p13, List.forall_mem_cons.mpr ⟨lw_p14, List.forall_mem_cons.mpr ⟨lw_p15, fun _ h => absurd h List.not_mem_nil⟩⟩⟩⟩⟩⟩⟩⟩⟩⟩⟩⟩⟩⟩⟩⟩
theorem lw_p16 : lw_okq (⟨"HiveBylawsModel", "moves", "(II)I"⟩, 15) := ⟨⟨by decide +kernel, by decide +kernel⟩, List.mem_of_getElem? (i := 620) (by decide +kernel), List.mem_of_getElem? (i := 705) (by decide +kernel), List.mem_of_getElem? (i := 706) (by decide +kernel)⟩
theorem lw_p17 : lw_okq (⟨"HiveBylawsModel", "isDrone", "(I)Z"⟩, 15) := ⟨⟨by decide +kernel, by decide +kernel⟩, List.mem_of_getElem? (i := 620) (by decide +kernel), List.mem_of_getElem? (i := 709) (by decide +kernel), List.mem_of_getElem? (i := 710) (by decide +kernel)⟩
theorem lw_p18 : lw_okq (⟨"HiveBylawsModel", "petitions", "(IIII)I"⟩, 15) := ⟨⟨by decide +kernel, by decide +kernel⟩, List.mem_of_getElem? (i := 620) (by decide +kernel), List.mem_of_getElem? (i := 717) (by decide +kernel), List.mem_of_getElem? (i := 718) (by decide +kernel)⟩
theorem lw_p19 : lw_okq (⟨"HiveBylawsModel", "seconds", "(II)I"⟩, 15) := ⟨⟨by decide +kernel, by decide +kernel⟩, List.mem_of_getElem? (i := 620) (by decide +kernel), List.mem_of_getElem? (i := 731) (by decide +kernel), List.mem_of_getElem? (i := 732) (by decide +kernel)⟩
theorem lw_p20 : lw_okq (⟨"HiveBylawsModel", "isPetition", "(I)Z"⟩, 15) := ⟨⟨by decide +kernel, by decide +kernel⟩, List.mem_of_getElem? (i := 620) (by decide +kernel), List.mem_of_getElem? (i := 735) (by decide +kernel), List.mem_of_getElem? (i := 736) (by decide +kernel)⟩
theorem lw_p21 : lw_okq (⟨"HiveBylawsModel", "support", "(II)I"⟩, 15) := ⟨⟨by decide +kernel, by decide +kernel⟩, List.mem_of_getElem? (i := 620) (by decide +kernel), List.mem_of_getElem? (i := 739) (by decide +kernel), List.mem_of_getElem? (i := 740) (by decide +kernel)⟩
theorem lw_p22 : lw_okq (⟨"HiveBylawsModel", "ends", "(I)I"⟩, 15) := ⟨⟨by decide +kernel, by decide +kernel⟩, List.mem_of_getElem? (i := 620) (by decide +kernel), List.mem_of_getElem? (i := 747) (by decide +kernel), List.mem_of_getElem? (i := 748) (by decide +kernel)⟩
theorem lw_p23 : lw_okq (⟨"HiveBylawsModel", "day", "(I)I"⟩, 15) := ⟨⟨by decide +kernel, by decide +kernel⟩, List.mem_of_getElem? (i := 620) (by decide +kernel), List.mem_of_getElem? (i := 752) (by decide +kernel), List.mem_of_getElem? (i := 753) (by decide +kernel)⟩
theorem lw_p24 : lw_okq (⟨"HiveBylawsModel", "hears", "(I)I"⟩, 15) := ⟨⟨by decide +kernel, by decide +kernel⟩, List.mem_of_getElem? (i := 620) (by decide +kernel), List.mem_of_getElem? (i := 756) (by decide +kernel), List.mem_of_getElem? (i := 757) (by decide +kernel)⟩
theorem lw_p25 : lw_okq (⟨"HiveBylawsModel", "sorts", "(I)V"⟩, 15) := ⟨⟨by decide +kernel, by decide +kernel⟩, List.mem_of_getElem? (i := 620) (by decide +kernel), List.mem_of_getElem? (i := 760) (by decide +kernel), List.mem_of_getElem? (i := 761) (by decide +kernel)⟩
theorem lw_p26 : lw_okq (⟨"HiveBylawsModel", "refusal", "(III)I"⟩, 15) := ⟨⟨by decide +kernel, by decide +kernel⟩, List.mem_of_getElem? (i := 620) (by decide +kernel), List.mem_of_getElem? (i := 764) (by decide +kernel), List.mem_of_getElem? (i := 765) (by decide +kernel)⟩
theorem lw_p27 : lw_okq (⟨"HiveBylawsModel", "refusedWith", "(IIII)I"⟩, 15) := ⟨⟨by decide +kernel, by decide +kernel⟩, List.mem_of_getElem? (i := 620) (by decide +kernel), List.mem_of_getElem? (i := 771) (by decide +kernel), List.mem_of_getElem? (i := 772) (by decide +kernel)⟩
theorem lw_p28 : lw_okq (⟨"HiveBylawsModel", "weightAt", "(II)I"⟩, 15) := ⟨⟨by decide +kernel, by decide +kernel⟩, List.mem_of_getElem? (i := 620) (by decide +kernel), List.mem_of_getElem? (i := 775) (by decide +kernel), List.mem_of_getElem? (i := 776) (by decide +kernel)⟩
theorem lw_p29 : lw_okq (⟨"HiveBylawsModel", "passes", "(III)V"⟩, 15) := ⟨⟨by decide +kernel, by decide +kernel⟩, List.mem_of_getElem? (i := 620) (by decide +kernel), List.mem_of_getElem? (i := 779) (by decide +kernel), List.mem_of_getElem? (i := 780) (by decide +kernel)⟩
theorem lw_p30 : lw_okq (⟨"HiveBylawsModel", "sets", "(II)I"⟩, 15) := ⟨⟨by decide +kernel, by decide +kernel⟩, List.mem_of_getElem? (i := 620) (by decide +kernel), List.mem_of_getElem? (i := 790) (by decide +kernel), List.mem_of_getElem? (i := 791) (by decide +kernel)⟩
theorem lw_p31 : lw_okq (⟨"HiveBylawsModel", "fault", "()I"⟩, 15) := ⟨⟨by decide +kernel, by decide +kernel⟩, List.mem_of_getElem? (i := 620) (by decide +kernel), List.mem_of_getElem? (i := 806) (by decide +kernel), List.mem_of_getElem? (i := 807) (by decide +kernel)⟩
def lw_privs_2 : List (MethodName × Nat) := [(⟨"HiveBylawsModel", "moves", "(II)I"⟩, 15), (⟨"HiveBylawsModel", "isDrone", "(I)Z"⟩, 15), (⟨"HiveBylawsModel", "petitions", "(IIII)I"⟩, 15), (⟨"HiveBylawsModel", "seconds", "(II)I"⟩, 15), (⟨"HiveBylawsModel", "isPetition", "(I)Z"⟩, 15), (⟨"HiveBylawsModel", "support", "(II)I"⟩, 15), (⟨"HiveBylawsModel", "ends", "(I)I"⟩, 15), (⟨"HiveBylawsModel", "day", "(I)I"⟩, 15), (⟨"HiveBylawsModel", "hears", "(I)I"⟩, 15), (⟨"HiveBylawsModel", "sorts", "(I)V"⟩, 15), (⟨"HiveBylawsModel", "refusal", "(III)I"⟩, 15), (⟨"HiveBylawsModel", "refusedWith", "(IIII)I"⟩, 15), (⟨"HiveBylawsModel", "weightAt", "(II)I"⟩, 15), (⟨"HiveBylawsModel", "passes", "(III)V"⟩, 15), (⟨"HiveBylawsModel", "sets", "(II)I"⟩, 15), (⟨"HiveBylawsModel", "fault", "()I"⟩, 15)]
theorem lw_r2 : ∀ q ∈ lw_privs_2, lw_okq q := List.forall_mem_cons.mpr ⟨lw_p16, List.forall_mem_cons.mpr ⟨lw_p17, List.forall_mem_cons.mpr ⟨lw_p18, List.forall_mem_cons.mpr ⟨lw_p19, List.forall_mem_cons.mpr ⟨lw_p20, List.forall_mem_cons.mpr ⟨lw_p21, List.forall_mem_cons.mpr ⟨lw_p22, List.forall_mem_cons.mpr ⟨lw_p23, List.forall_mem_cons.mpr ⟨lw_p24, List.forall_mem_cons.mpr ⟨lw_p25, List.forall_mem_cons.mpr ⟨lw_p26, List.forall_mem_cons.mpr ⟨lw_p27, List.forall_mem_cons.mpr ⟨lw_p28, List.forall_mem_cons.mpr ⟨lw_p29, List.forall_mem_cons.mpr ⟨lw_p30, List.forall_mem_cons.mpr ⟨lw_p31, fun _ h => absurd h List.not_mem_nil⟩⟩⟩⟩⟩⟩⟩⟩⟩⟩⟩⟩⟩⟩⟩⟩
theorem lw_p32 : lw_okq (⟨"HiveBylawsModel", "readsThing", "()Z"⟩, 15) := ⟨⟨by decide +kernel, by decide +kernel⟩, List.mem_of_getElem? (i := 620) (by decide +kernel), List.mem_of_getElem? (i := 810) (by decide +kernel), List.mem_of_getElem? (i := 811) (by decide +kernel)⟩
theorem lw_p33 : lw_okq (⟨"HiveBylawsModel", "readsPetition", "()Z"⟩, 15) := ⟨⟨by decide +kernel, by decide +kernel⟩, List.mem_of_getElem? (i := 620) (by decide +kernel), List.mem_of_getElem? (i := 814) (by decide +kernel), List.mem_of_getElem? (i := 815) (by decide +kernel)⟩
theorem lw_p34 : lw_okq (⟨"HiveBylawsModel", "number", "(II)I"⟩, 15) := ⟨⟨by decide +kernel, by decide +kernel⟩, List.mem_of_getElem? (i := 620) (by decide +kernel), List.mem_of_getElem? (i := 818) (by decide +kernel), List.mem_of_getElem? (i := 819) (by decide +kernel)⟩
theorem lw_p35 : lw_okq (⟨"HiveBylawsModel", "isHere", "(II)Z"⟩, 15) := ⟨⟨by decide +kernel, by decide +kernel⟩, List.mem_of_getElem? (i := 620) (by decide +kernel), List.mem_of_getElem? (i := 822) (by decide +kernel), List.mem_of_getElem? (i := 823) (by decide +kernel)⟩
theorem lw_p36 : lw_okq (⟨"HiveBylawsModel", "takes", "(I)Z"⟩, 15) := ⟨⟨by decide +kernel, by decide +kernel⟩, List.mem_of_getElem? (i := 620) (by decide +kernel), List.mem_of_getElem? (i := 826) (by decide +kernel), List.mem_of_getElem? (i := 827) (by decide +kernel)⟩
theorem lw_p37 : lw_okq (⟨"HiveBylawsModel", "does", "()I"⟩, 15) := ⟨⟨by decide +kernel, by decide +kernel⟩, List.mem_of_getElem? (i := 620) (by decide +kernel), List.mem_of_getElem? (i := 830) (by decide +kernel), List.mem_of_getElem? (i := 831) (by decide +kernel)⟩
theorem lw_p38 : lw_okq (⟨"HiveBylawsModel", "bylaws", "(Z)I"⟩, 15) := ⟨⟨by decide +kernel, by decide +kernel⟩, List.mem_of_getElem? (i := 620) (by decide +kernel), List.mem_of_getElem? (i := 846) (by decide +kernel), List.mem_of_getElem? (i := 847) (by decide +kernel)⟩
theorem lw_p39 : lw_okq (⟨"HiveBylawsModel", "secondedBy", "(I)I"⟩, 15) := ⟨⟨by decide +kernel, by decide +kernel⟩, List.mem_of_getElem? (i := 620) (by decide +kernel), List.mem_of_getElem? (i := 858) (by decide +kernel), List.mem_of_getElem? (i := 859) (by decide +kernel)⟩
theorem lw_p40 : lw_okq (⟨"HiveBylawsModel", "ranked", "(I)I"⟩, 15) := ⟨⟨by decide +kernel, by decide +kernel⟩, List.mem_of_getElem? (i := 620) (by decide +kernel), List.mem_of_getElem? (i := 866) (by decide +kernel), List.mem_of_getElem? (i := 867) (by decide +kernel)⟩
theorem lw_p41 : lw_okq (⟨"HiveBylawsModel", "ruling", "(II)I"⟩, 15) := ⟨⟨by decide +kernel, by decide +kernel⟩, List.mem_of_getElem? (i := 620) (by decide +kernel), List.mem_of_getElem? (i := 882) (by decide +kernel), List.mem_of_getElem? (i := 883) (by decide +kernel)⟩
theorem lw_p42 : lw_okq (⟨"HiveBylawsModel", "isAllowed", "(II)Z"⟩, 15) := ⟨⟨by decide +kernel, by decide +kernel⟩, List.mem_of_getElem? (i := 620) (by decide +kernel), List.mem_of_getElem? (i := 886) (by decide +kernel), List.mem_of_getElem? (i := 887) (by decide +kernel)⟩
theorem lw_p43 : lw_okq (⟨"HiveBylawsModel", "tries", "()V"⟩, 15) := ⟨⟨by decide +kernel, by decide +kernel⟩, List.mem_of_getElem? (i := 620) (by decide +kernel), List.mem_of_getElem? (i := 894) (by decide +kernel), List.mem_of_getElem? (i := 895) (by decide +kernel)⟩
theorem lw_p44 : lw_okq (⟨"HiveBylawsModel", "oldestAt", "(I)I"⟩, 15) := ⟨⟨by decide +kernel, by decide +kernel⟩, List.mem_of_getElem? (i := 620) (by decide +kernel), List.mem_of_getElem? (i := 914) (by decide +kernel), List.mem_of_getElem? (i := 915) (by decide +kernel)⟩
theorem lw_p45 : lw_okq (⟨"HiveBylawsModel", "rankOf", "(I)I"⟩, 15) := ⟨⟨by decide +kernel, by decide +kernel⟩, List.mem_of_getElem? (i := 620) (by decide +kernel), List.mem_of_getElem? (i := 918) (by decide +kernel), List.mem_of_getElem? (i := 919) (by decide +kernel)⟩
theorem lw_p46 : lw_okq (⟨"HiveBylawsModel", "forbiddenAtCombs", "()I"⟩, 15) := ⟨⟨by decide +kernel, by decide +kernel⟩, List.mem_of_getElem? (i := 620) (by decide +kernel), List.mem_of_getElem? (i := 926) (by decide +kernel), List.mem_of_getElem? (i := 927) (by decide +kernel)⟩
def lw_privs_3 : List (MethodName × Nat) := [(⟨"HiveBylawsModel", "readsThing", "()Z"⟩, 15), (⟨"HiveBylawsModel", "readsPetition", "()Z"⟩, 15), (⟨"HiveBylawsModel", "number", "(II)I"⟩, 15), (⟨"HiveBylawsModel", "isHere", "(II)Z"⟩, 15), (⟨"HiveBylawsModel", "takes", "(I)Z"⟩, 15), (⟨"HiveBylawsModel", "does", "()I"⟩, 15), (⟨"HiveBylawsModel", "bylaws", "(Z)I"⟩, 15), (⟨"HiveBylawsModel", "secondedBy", "(I)I"⟩, 15), (⟨"HiveBylawsModel", "ranked", "(I)I"⟩, 15), (⟨"HiveBylawsModel", "ruling", "(II)I"⟩, 15), (⟨"HiveBylawsModel", "isAllowed", "(II)Z"⟩, 15), (⟨"HiveBylawsModel", "tries", "()V"⟩, 15), (⟨"HiveBylawsModel", "oldestAt", "(I)I"⟩, 15), (⟨"HiveBylawsModel", "rankOf", "(I)I"⟩, 15), (⟨"HiveBylawsModel", "forbiddenAtCombs", "()I"⟩, 15)]
theorem lw_r3 : ∀ q ∈ lw_privs_3, lw_okq q := List.forall_mem_cons.mpr ⟨lw_p32, List.forall_mem_cons.mpr ⟨lw_p33, List.forall_mem_cons.mpr ⟨lw_p34, List.forall_mem_cons.mpr ⟨lw_p35, List.forall_mem_cons.mpr ⟨lw_p36, List.forall_mem_cons.mpr ⟨lw_p37, List.forall_mem_cons.mpr ⟨lw_p38, List.forall_mem_cons.mpr ⟨lw_p39, List.forall_mem_cons.mpr ⟨lw_p40, List.forall_mem_cons.mpr ⟨lw_p41, List.forall_mem_cons.mpr ⟨lw_p42, List.forall_mem_cons.mpr ⟨lw_p43, List.forall_mem_cons.mpr ⟨lw_p44, List.forall_mem_cons.mpr ⟨lw_p45, List.forall_mem_cons.mpr ⟨lw_p46, fun _ h => absurd h List.not_mem_nil⟩⟩⟩⟩⟩⟩⟩⟩⟩⟩⟩⟩⟩⟩⟩
def lw_privs : List (MethodName × Nat) := lw_privs_1 ++ (lw_privs_2 ++ (lw_privs_3))
def lw_tbl : List Cond := k2_sels lw_privs ++ tables_1
theorem lw_privs_ok : ∀ q ∈ lw_privs, lw_okq q := by
  show ∀ q ∈ lw_privs_1 ++ (lw_privs_2 ++ (lw_privs_3)), lw_okq q
  exact List.forall_mem_append.mpr ⟨lw_r1, List.forall_mem_append.mpr ⟨lw_r2, lw_r3⟩⟩
-- ===== end of PART A; then your names; then what follows =====
def RX0 : String := "HiveBylaws$History"
def TX0 : u_T := fun k => match k with
  | 0 => ("HiveBylaws$History", "ring", "[LHiveBylaws$State;", true)
  | 1 => ("HiveBylaws$History", "first", "I", false)
  | _ => ("HiveBylaws$History", "size", "I", false)
def tyX0 : Nat → FieldType := fun k => match k with
  | 0 => .array (.object "HiveBylaws$State")
  | 1 => .int
  | _ => .int
abbrev wsX00 : List Cond := u_ws RX0 TX0 3
theorem nmX0 : ∀ a, a < 3 → ∀ b, b < 3 → a ≠ b → (TX0 a).2.1 ≠ (TX0 b).2.1 := by decide +kernel
theorem tyX0_ok : ∀ k, k < 3 → parseFieldDescriptor (TX0 k).2.2.1 = some (tyX0 k) := by decide +kernel
abbrev cX0_init : ByteArray := prog_2_method_1_code
def yX0_init : MethodName := ⟨RX0, "<init>", "()V"⟩
abbrev cX0_remember : ByteArray := prog_2_method_2_code
def yX0_remember : MethodName := ⟨RX0, "remember", "(LHiveBylaws$State;)V"⟩
abbrev cX0_takeBack : ByteArray := prog_2_method_3_code
def yX0_takeBack : MethodName := ⟨RX0, "takeBack", "(LHiveBylaws$State;)I"⟩
def RX1 : String := "HiveBylaws$Laws"
def TX1 : u_T := fun k => match k with
  | 0 => ("HiveBylaws$Laws", "stance", "[I", true)
  | 1 => ("HiveBylaws$Laws", "strength", "[I", true)
  | _ => ("HiveBylaws$Laws", "season", "[I", true)
def tyX1 : Nat → FieldType := fun k => match k with
  | 0 => .array .int
  | 1 => .array .int
  | _ => .array .int
abbrev wsX10 : List Cond := u_ws RX1 TX1 3
theorem nmX1 : ∀ a, a < 3 → ∀ b, b < 3 → a ≠ b → (TX1 a).2.1 ≠ (TX1 b).2.1 := by decide +kernel
theorem tyX1_ok : ∀ k, k < 3 → parseFieldDescriptor (TX1 k).2.2.1 = some (tyX1 k) := by decide +kernel
abbrev cX1_init : ByteArray := prog_3_method_1_code
def yX1_init : MethodName := ⟨RX1, "<init>", "()V"⟩
abbrev cX1_copyFrom : ByteArray := prog_3_method_2_code
def yX1_copyFrom : MethodName := ⟨RX1, "copyFrom", "(LHiveBylaws$Laws;)V"⟩
abbrev cX1_stanceOf : ByteArray := prog_3_method_3_code
def yX1_stanceOf : MethodName := ⟨RX1, "stanceOf", "(II)I"⟩
abbrev cX1_strengthOf : ByteArray := prog_3_method_4_code
def yX1_strengthOf : MethodName := ⟨RX1, "strengthOf", "(II)I"⟩
abbrev cX1_size : ByteArray := prog_3_method_5_code
def yX1_size : MethodName := ⟨RX1, "size", "()I"⟩
abbrev cX1_rankOf : ByteArray := prog_3_method_6_code
def yX1_rankOf : MethodName := ⟨RX1, "rankOf", "(I)I"⟩
abbrev cX1_spotAt : ByteArray := prog_3_method_7_code
def yX1_spotAt : MethodName := ⟨RX1, "spotAt", "(I)I"⟩
abbrev cX1_rulingPlace : ByteArray := prog_3_method_8_code
def yX1_rulingPlace : MethodName := ⟨RX1, "rulingPlace", "(II)I"⟩
abbrev cX1_isForbidden : ByteArray := prog_3_method_9_code
def yX1_isForbidden : MethodName := ⟨RX1, "isForbidden", "(II)Z"⟩
abbrev cX1_forbidding : ByteArray := prog_3_method_10_code
def yX1_forbidding : MethodName := ⟨RX1, "forbidding", "()I"⟩
abbrev cX1_forbiddenDoings : ByteArray := prog_3_method_11_code
def yX1_forbiddenDoings : MethodName := ⟨RX1, "forbiddenDoings", "()I"⟩
abbrev cX1_oldestSpot : ByteArray := prog_3_method_12_code
def yX1_oldestSpot : MethodName := ⟨RX1, "oldestSpot", "(I)I"⟩
def RX2 : String := "HiveBylaws$PetitionText"
def TX2 : u_T := fun k => match k with
  | 0 => ("HiveBylaws$PetitionText", "characters", "[C", true)
  | 1 => ("HiveBylaws$PetitionText", "length", "I", false)
  | 2 => ("HiveBylaws$PetitionText", "at", "I", false)
  | 3 => ("HiveBylaws$PetitionText", "things", "I", false)
  | 4 => ("HiveBylaws$PetitionText", "act", "[I", true)
  | 5 => ("HiveBylaws$PetitionText", "drone", "[I", true)
  | 6 => ("HiveBylaws$PetitionText", "number", "[I", true)
  | 7 => ("HiveBylaws$PetitionText", "doing", "[I", true)
  | _ => ("HiveBylaws$PetitionText", "kind", "[I", true)
def tyX2 : Nat → FieldType := fun k => match k with
  | 0 => .array .char
  | 1 => .int
  | 2 => .int
  | 3 => .int
  | 4 => .array .int
  | 5 => .array .int
  | 6 => .array .int
  | 7 => .array .int
  | _ => .array .int
abbrev wsX20 : List Cond := u_ws RX2 TX2 9
theorem nmX2 : ∀ a, a < 9 → ∀ b, b < 9 → a ≠ b → (TX2 a).2.1 ≠ (TX2 b).2.1 := by decide +kernel
theorem tyX2_ok : ∀ k, k < 9 → parseFieldDescriptor (TX2 k).2.2.1 = some (tyX2 k) := by decide +kernel
abbrev cX2_init : ByteArray := prog_4_method_1_code
def yX2_init : MethodName := ⟨RX2, "<init>", "()V"⟩
abbrev cX2_append : ByteArray := prog_4_method_2_code
def yX2_append : MethodName := ⟨RX2, "append", "(C)I"⟩
abbrev cX2_empty : ByteArray := prog_4_method_3_code
def yX2_empty : MethodName := ⟨RX2, "empty", "()I"⟩
abbrev cX2_read : ByteArray := prog_4_method_4_code
def yX2_read : MethodName := ⟨RX2, "read", "()I"⟩
abbrev cX2_readThing : ByteArray := prog_4_method_5_code
def yX2_readThing : MethodName := ⟨RX2, "readThing", "(I)Z"⟩
abbrev cX2_readPetition : ByteArray := prog_4_method_6_code
def yX2_readPetition : MethodName := ⟨RX2, "readPetition", "(I)Z"⟩
abbrev cX2_readSeconding : ByteArray := prog_4_method_7_code
def yX2_readSeconding : MethodName := ⟨RX2, "readSeconding", "(I)Z"⟩
abbrev cX2_readKind : ByteArray := prog_4_method_8_code
def yX2_readKind : MethodName := ⟨RX2, "readKind", "()I"⟩
abbrev cX2_readNumber : ByteArray := prog_4_method_9_code
def yX2_readNumber : MethodName := ⟨RX2, "readNumber", "(II)I"⟩
abbrev cX2_digitHere : ByteArray := prog_4_method_10_code
def yX2_digitHere : MethodName := ⟨RX2, "digitHere", "()I"⟩
abbrev cX2_skip : ByteArray := prog_4_method_11_code
def yX2_skip : MethodName := ⟨RX2, "skip", "(C)Z"⟩
def RX3 : String := "HiveBylaws$Petitions"
def TX3 : u_T := fun k => match k with
  | 0 => ("HiveBylaws$Petitions", "size", "I", false)
  | 1 => ("HiveBylaws$Petitions", "drone", "[I", true)
  | 2 => ("HiveBylaws$Petitions", "place", "[I", true)
  | 3 => ("HiveBylaws$Petitions", "doing", "[I", true)
  | 4 => ("HiveBylaws$Petitions", "kind", "[I", true)
  | 5 => ("HiveBylaws$Petitions", "support", "[I", true)
  | _ => ("HiveBylaws$Petitions", "seconders", "[I", true)
def tyX3 : Nat → FieldType := fun k => match k with
  | 0 => .int
  | 1 => .array .int
  | 2 => .array .int
  | 3 => .array .int
  | 4 => .array .int
  | 5 => .array .int
  | _ => .array .int
abbrev wsX30 : List Cond := u_ws RX3 TX3 7
theorem nmX3 : ∀ a, a < 7 → ∀ b, b < 7 → a ≠ b → (TX3 a).2.1 ≠ (TX3 b).2.1 := by decide +kernel
theorem tyX3_ok : ∀ k, k < 7 → parseFieldDescriptor (TX3 k).2.2.1 = some (tyX3 k) := by decide +kernel
abbrev cX3_init : ByteArray := prog_5_method_1_code
def yX3_init : MethodName := ⟨RX3, "<init>", "()V"⟩
abbrev cX3_copyFrom : ByteArray := prog_5_method_2_code
def yX3_copyFrom : MethodName := ⟨RX3, "copyFrom", "(LHiveBylaws$Petitions;)V"⟩
abbrev cX3_has : ByteArray := prog_5_method_3_code
def yX3_has : MethodName := ⟨RX3, "has", "(I)Z"⟩
abbrev cX3_add : ByteArray := prog_5_method_4_code
def yX3_add : MethodName := ⟨RX3, "add", "(IIIII)I"⟩
abbrev cX3_madeBy : ByteArray := prog_5_method_5_code
def yX3_madeBy : MethodName := ⟨RX3, "madeBy", "(I)I"⟩
abbrev cX3_makers : ByteArray := prog_5_method_6_code
def yX3_makers : MethodName := ⟨RX3, "makers", "()I"⟩
abbrev cX3_secondedBy : ByteArray := prog_5_method_7_code
def yX3_secondedBy : MethodName := ⟨RX3, "secondedBy", "(I)I"⟩
abbrev cX3_atRank : ByteArray := prog_5_method_8_code
def yX3_atRank : MethodName := ⟨RX3, "atRank", "(I)I"⟩
abbrev cX3_rankOf : ByteArray := prog_5_method_9_code
def yX3_rankOf : MethodName := ⟨RX3, "rankOf", "(I)I"⟩
def RX4 : String := "HiveBylaws$Refusals"
def TX4 : u_T := fun k => match k with
  | 0 => ("HiveBylaws$Refusals", "size", "I", false)
  | 1 => ("HiveBylaws$Refusals", "place", "[I", true)
  | 2 => ("HiveBylaws$Refusals", "doing", "[I", true)
  | 3 => ("HiveBylaws$Refusals", "kind", "[I", true)
  | _ => ("HiveBylaws$Refusals", "support", "[I", true)
def tyX4 : Nat → FieldType := fun k => match k with
  | 0 => .int
  | 1 => .array .int
  | 2 => .array .int
  | 3 => .array .int
  | _ => .array .int
abbrev wsX40 : List Cond := u_ws RX4 TX4 5
theorem nmX4 : ∀ a, a < 5 → ∀ b, b < 5 → a ≠ b → (TX4 a).2.1 ≠ (TX4 b).2.1 := by decide +kernel
theorem tyX4_ok : ∀ k, k < 5 → parseFieldDescriptor (TX4 k).2.2.1 = some (tyX4 k) := by decide +kernel
abbrev cX4_init : ByteArray := prog_6_method_1_code
def yX4_init : MethodName := ⟨RX4, "<init>", "()V"⟩
abbrev cX4_copyFrom : ByteArray := prog_6_method_2_code
def yX4_copyFrom : MethodName := ⟨RX4, "copyFrom", "(LHiveBylaws$Refusals;)V"⟩
abbrev cX4_add : ByteArray := prog_6_method_3_code
def yX4_add : MethodName := ⟨RX4, "add", "(LHiveBylaws$Petitions;I)V"⟩
abbrev cX4_greatestSupport : ByteArray := prog_6_method_4_code
def yX4_greatestSupport : MethodName := ⟨RX4, "greatestSupport", "(III)I"⟩
def RX5 : String := "HiveBylaws$State"
def TX5 : u_T := fun k => match k with
  | 0 => ("HiveBylaws$State", "swarm", "LHiveBylaws$Swarm;", true)
  | 1 => ("HiveBylaws$State", "laws", "LHiveBylaws$Laws;", true)
  | 2 => ("HiveBylaws$State", "petitions", "LHiveBylaws$Petitions;", true)
  | 3 => ("HiveBylaws$State", "refusals", "LHiveBylaws$Refusals;", true)
  | 4 => ("HiveBylaws$State", "setting", "[I", true)
  | 5 => ("HiveBylaws$State", "day", "I", false)
  | 6 => ("HiveBylaws$State", "season", "I", false)
  | 7 => ("HiveBylaws$State", "daysOfSeason", "I", false)
  | 8 => ("HiveBylaws$State", "repeals", "I", false)
  | _ => ("HiveBylaws$State", "verdict", "[I", true)
def tyX5 : Nat → FieldType := fun k => match k with
  | 0 => .object "HiveBylaws$Swarm"
  | 1 => .object "HiveBylaws$Laws"
  | 2 => .object "HiveBylaws$Petitions"
  | 3 => .object "HiveBylaws$Refusals"
  | 4 => .array .int
  | 5 => .int
  | 6 => .int
  | 7 => .int
  | 8 => .int
  | _ => .array .int
abbrev wsX50 : List Cond := u_ws RX5 TX5 10
theorem nmX5 : ∀ a, a < 10 → ∀ b, b < 10 → a ≠ b → (TX5 a).2.1 ≠ (TX5 b).2.1 := by decide +kernel
theorem tyX5_ok : ∀ k, k < 10 → parseFieldDescriptor (TX5 k).2.2.1 = some (tyX5 k) := by decide +kernel
abbrev cX5_init : ByteArray := prog_7_method_1_code
def yX5_init : MethodName := ⟨RX5, "<init>", "()V"⟩
abbrev cX5_copyFrom : ByteArray := prog_7_method_2_code
def yX5_copyFrom : MethodName := ⟨RX5, "copyFrom", "(LHiveBylaws$State;)V"⟩
abbrev cX5_addDrone : ByteArray := prog_7_method_3_code
def yX5_addDrone : MethodName := ⟨RX5, "addDrone", "(II)I"⟩
abbrev cX5_moveDrone : ByteArray := prog_7_method_4_code
def yX5_moveDrone : MethodName := ⟨RX5, "moveDrone", "(II)I"⟩
abbrev cX5_addPetition : ByteArray := prog_7_method_5_code
def yX5_addPetition : MethodName := ⟨RX5, "addPetition", "(IIII)I"⟩
abbrev cX5_addSeconder : ByteArray := prog_7_method_6_code
def yX5_addSeconder : MethodName := ⟨RX5, "addSeconder", "(II)I"⟩
abbrev cX5_endDays : ByteArray := prog_7_method_7_code
def yX5_endDays : MethodName := ⟨RX5, "endDays", "(I)I"⟩
abbrev cX5_changeSetting : ByteArray := prog_7_method_8_code
def yX5_changeSetting : MethodName := ⟨RX5, "changeSetting", "(II)I"⟩
abbrev cX5_endSeason : ByteArray := prog_7_method_9_code
def yX5_endSeason : MethodName := ⟨RX5, "endSeason", "()I"⟩
abbrev cX5_hearPetitions : ByteArray := prog_7_method_10_code
def yX5_hearPetitions : MethodName := ⟨RX5, "hearPetitions", "()I"⟩
abbrev cX5_reasonToRefuse : ByteArray := prog_7_method_11_code
def yX5_reasonToRefuse : MethodName := ⟨RX5, "reasonToRefuse", "(II)I"⟩
abbrev cX5_grant : ByteArray := prog_7_method_12_code
def yX5_grant : MethodName := ⟨RX5, "grant", "(I)V"⟩
def RX6 : String := "HiveBylaws$Swarm"
def TX6 : u_T := fun k => match k with
  | 0 => ("HiveBylaws$Swarm", "size", "I", false)
  | 1 => ("HiveBylaws$Swarm", "comb", "[I", true)
  | 2 => ("HiveBylaws$Swarm", "weight", "[I", true)
  | 3 => ("HiveBylaws$Swarm", "made", "[I", true)
  | 4 => ("HiveBylaws$Swarm", "passed", "[I", true)
  | _ => ("HiveBylaws$Swarm", "refused", "[I", true)
def tyX6 : Nat → FieldType := fun k => match k with
  | 0 => .int
  | 1 => .array .int
  | 2 => .array .int
  | 3 => .array .int
  | 4 => .array .int
  | _ => .array .int
abbrev wsX60 : List Cond := u_ws RX6 TX6 6
theorem nmX6 : ∀ a, a < 6 → ∀ b, b < 6 → a ≠ b → (TX6 a).2.1 ≠ (TX6 b).2.1 := by decide +kernel
theorem tyX6_ok : ∀ k, k < 6 → parseFieldDescriptor (TX6 k).2.2.1 = some (tyX6 k) := by decide +kernel
abbrev cX6_init : ByteArray := prog_8_method_1_code
def yX6_init : MethodName := ⟨RX6, "<init>", "()V"⟩
abbrev cX6_copyFrom : ByteArray := prog_8_method_2_code
def yX6_copyFrom : MethodName := ⟨RX6, "copyFrom", "(LHiveBylaws$Swarm;)V"⟩
abbrev cX6_knows : ByteArray := prog_8_method_3_code
def yX6_knows : MethodName := ⟨RX6, "knows", "(I)Z"⟩
abbrev cX6_add : ByteArray := prog_8_method_4_code
def yX6_add : MethodName := ⟨RX6, "add", "(II)I"⟩
abbrev cX6_weightAt : ByteArray := prog_8_method_5_code
def yX6_weightAt : MethodName := ⟨RX6, "weightAt", "(I)I"⟩
def RX7 : String := "HiveBylaws"
def TX7 : u_T := fun k => match k with
  | 0 => ("HiveBylaws", "state", "LHiveBylaws$State;", true)
  | 1 => ("HiveBylaws", "before", "LHiveBylaws$State;", true)
  | 2 => ("HiveBylaws", "trial", "LHiveBylaws$State;", true)
  | 3 => ("HiveBylaws", "snapshot", "LHiveBylaws$State;", true)
  | 4 => ("HiveBylaws", "hasSnapshot", "Z", false)
  | 5 => ("HiveBylaws", "history", "LHiveBylaws$History;", true)
  | 6 => ("HiveBylaws", "text", "LHiveBylaws$PetitionText;", true)
  | 7 => ("HiveBylaws", "stopNumber", "I", false)
  | _ => ("HiveBylaws", "stopError", "I", false)
def tyX7 : Nat → FieldType := fun k => match k with
  | 0 => .object "HiveBylaws$State"
  | 1 => .object "HiveBylaws$State"
  | 2 => .object "HiveBylaws$State"
  | 3 => .object "HiveBylaws$State"
  | 4 => .boolean
  | 5 => .object "HiveBylaws$History"
  | 6 => .object "HiveBylaws$PetitionText"
  | 7 => .int
  | _ => .int
abbrev wsX70 : List Cond := u_ws RX7 TX7 9
theorem nmX7 : ∀ a, a < 9 → ∀ b, b < 9 → a ≠ b → (TX7 a).2.1 ≠ (TX7 b).2.1 := by decide +kernel
theorem tyX7_ok : ∀ k, k < 9 → parseFieldDescriptor (TX7 k).2.2.1 = some (tyX7 k) := by decide +kernel
abbrev cX7_init : ByteArray := prog_1_method_1_code
def yX7_init : MethodName := ⟨RX7, "<init>", "()V"⟩
abbrev cX7_come : ByteArray := prog_1_method_2_code
def yX7_come : MethodName := ⟨RX7, "come", "(II)I"⟩
abbrev cX7_move : ByteArray := prog_1_method_3_code
def yX7_move : MethodName := ⟨RX7, "move", "(II)I"⟩
abbrev cX7_petition : ByteArray := prog_1_method_4_code
def yX7_petition : MethodName := ⟨RX7, "petition", "(IIII)I"⟩
abbrev cX7_second : ByteArray := prog_1_method_5_code
def yX7_second : MethodName := ⟨RX7, "second", "(II)I"⟩
abbrev cX7_pass : ByteArray := prog_1_method_6_code
def yX7_pass : MethodName := ⟨RX7, "pass", "(I)I"⟩
abbrev cX7_set : ByteArray := prog_1_method_7_code
def yX7_set : MethodName := ⟨RX7, "set", "(II)I"⟩
abbrev cX7_type : ByteArray := prog_1_method_8_code
def yX7_type : MethodName := ⟨RX7, "type", "(C)I"⟩
abbrev cX7_clearText : ByteArray := prog_1_method_9_code
def yX7_clearText : MethodName := ⟨RX7, "clearText", "()I"⟩
abbrev cX7_perform : ByteArray := prog_1_method_10_code
def yX7_perform : MethodName := ⟨RX7, "perform", "()I"⟩
abbrev cX7_stopped : ByteArray := prog_1_method_11_code
def yX7_stopped : MethodName := ⟨RX7, "stopped", "(I)I"⟩
abbrev cX7_undo : ByteArray := prog_1_method_12_code
def yX7_undo : MethodName := ⟨RX7, "undo", "()I"⟩
abbrev cX7_keep : ByteArray := prog_1_method_13_code
def yX7_keep : MethodName := ⟨RX7, "keep", "()I"⟩
abbrev cX7_restore : ByteArray := prog_1_method_14_code
def yX7_restore : MethodName := ⟨RX7, "restore", "()I"⟩
abbrev cX7_drone : ByteArray := prog_1_method_15_code
def yX7_drone : MethodName := ⟨RX7, "drone", "(II)I"⟩
abbrev cX7_bylaw : ByteArray := prog_1_method_16_code
def yX7_bylaw : MethodName := ⟨RX7, "bylaw", "(II)I"⟩
abbrev cX7_petitionOf : ByteArray := prog_1_method_17_code
def yX7_petitionOf : MethodName := ⟨RX7, "petitionOf", "(II)I"⟩
abbrev cX7_heard : ByteArray := prog_1_method_18_code
def yX7_heard : MethodName := ⟨RX7, "heard", "(I)I"⟩
abbrev cX7_rule : ByteArray := prog_1_method_19_code
def yX7_rule : MethodName := ⟨RX7, "rule", "(III)I"⟩
abbrev cX7_reason : ByteArray := prog_1_method_20_code
def yX7_reason : MethodName := ⟨RX7, "reason", "(I)I"⟩
abbrev cX7_wouldPass : ByteArray := prog_1_method_21_code
def yX7_wouldPass : MethodName := ⟨RX7, "wouldPass", "()I"⟩
abbrev cX7_lacks : ByteArray := prog_1_method_22_code
def yX7_lacks : MethodName := ⟨RX7, "lacks", "(I)I"⟩
abbrev cX7_free : ByteArray := prog_1_method_23_code
def yX7_free : MethodName := ⟨RX7, "free", "()I"⟩
abbrev cX7_oldest : ByteArray := prog_1_method_24_code
def yX7_oldest : MethodName := ⟨RX7, "oldest", "(II)I"⟩
abbrev cX7_count : ByteArray := prog_1_method_25_code
def yX7_count : MethodName := ⟨RX7, "count", "(I)I"⟩
abbrev cX7_isComb : ByteArray := prog_1_method_26_code
def yX7_isComb : MethodName := ⟨RX7, "isComb", "(I)Z"⟩
abbrev cX7_isPlace : ByteArray := prog_1_method_27_code
def yX7_isPlace : MethodName := ⟨RX7, "isPlace", "(I)Z"⟩
abbrev cX7_isDoing : ByteArray := prog_1_method_28_code
def yX7_isDoing : MethodName := ⟨RX7, "isDoing", "(I)Z"⟩
abbrev cX7_sum : ByteArray := prog_1_method_29_code
def yX7_sum : MethodName := ⟨RX7, "sum", "([I)I"⟩
abbrev cX7_recorded : ByteArray := prog_1_method_30_code
def yX7_recorded : MethodName := ⟨RX7, "recorded", "(I)I"⟩
abbrev cX7_doThing : ByteArray := prog_1_method_31_code
def yX7_doThing : MethodName := ⟨RX7, "doThing", "(I)I"⟩
def RX8 : String := "HiveBylawsModel"
def TX8 : u_T := fun k => match k with
  | 0 => ("HiveBylawsModel", "s", "[I", true)
  | 1 => ("HiveBylawsModel", "states", "I", false)
  | 2 => ("HiveBylawsModel", "isKept", "Z", false)
  | 3 => ("HiveBylawsModel", "text", "[I", true)
  | 4 => ("HiveBylawsModel", "typed", "I", false)
  | 5 => ("HiveBylawsModel", "stopNumber", "I", false)
  | 6 => ("HiveBylawsModel", "stopError", "I", false)
  | 7 => ("HiveBylawsModel", "order", "[I", true)
  | 8 => ("HiveBylawsModel", "reasons", "[I", true)
  | 9 => ("HiveBylawsModel", "spot", "I", false)
  | 10 => ("HiveBylawsModel", "letter", "I", false)
  | 11 => ("HiveBylawsModel", "one", "I", false)
  | 12 => ("HiveBylawsModel", "two", "I", false)
  | 13 => ("HiveBylawsModel", "three", "I", false)
  | _ => ("HiveBylawsModel", "four", "I", false)
def tyX8 : Nat → FieldType := fun k => match k with
  | 0 => .array .int
  | 1 => .int
  | 2 => .boolean
  | 3 => .array .int
  | 4 => .int
  | 5 => .int
  | 6 => .int
  | 7 => .array .int
  | 8 => .array .int
  | 9 => .int
  | 10 => .int
  | 11 => .int
  | 12 => .int
  | 13 => .int
  | _ => .int
abbrev wsX80 : List Cond := u_ws RX8 TX8 15
theorem nmX8 : ∀ a, a < 15 → ∀ b, b < 15 → a ≠ b → (TX8 a).2.1 ≠ (TX8 b).2.1 := by decide +kernel
theorem tyX8_ok : ∀ k, k < 15 → parseFieldDescriptor (TX8 k).2.2.1 = some (tyX8 k) := by decide +kernel
abbrev cX8_init : ByteArray := prog_10_method_1_code
def yX8_init : MethodName := ⟨RX8, "<init>", "()V"⟩
abbrev cX8_in : ByteArray := prog_10_method_3_code
def yX8_in : MethodName := ⟨RX8, "in", "(III)Z"⟩
abbrev cX8_flag : ByteArray := prog_10_method_4_code
def yX8_flag : MethodName := ⟨RX8, "flag", "(Z)I"⟩
abbrev cX8_copies : ByteArray := prog_10_method_5_code
def yX8_copies : MethodName := ⟨RX8, "copies", "(II)V"⟩
abbrev cX8_records : ByteArray := prog_10_method_6_code
def yX8_records : MethodName := ⟨RX8, "records", "(I)V"⟩
abbrev cX8_droneAt : ByteArray := prog_10_method_7_code
def yX8_droneAt : MethodName := ⟨RX8, "droneAt", "(II)I"⟩
abbrev cX8_petitionAt : ByteArray := prog_10_method_8_code
def yX8_petitionAt : MethodName := ⟨RX8, "petitionAt", "(II)I"⟩
abbrev cX8_bylawAt : ByteArray := prog_10_method_9_code
def yX8_bylawAt : MethodName := ⟨RX8, "bylawAt", "(III)I"⟩
abbrev cX8_support : ByteArray := prog_10_method_10_code
def yX8_support : MethodName := ⟨RX8, "support", "(II)I"⟩
abbrev cX8_weightAt : ByteArray := prog_10_method_11_code
def yX8_weightAt : MethodName := ⟨RX8, "weightAt", "(II)I"⟩
abbrev cX8_refusedWith : ByteArray := prog_10_method_12_code
def yX8_refusedWith : MethodName := ⟨RX8, "refusedWith", "(IIII)I"⟩
abbrev cX8_refusal : ByteArray := prog_10_method_13_code
def yX8_refusal : MethodName := ⟨RX8, "refusal", "(III)I"⟩
abbrev cX8_passes : ByteArray := prog_10_method_14_code
def yX8_passes : MethodName := ⟨RX8, "passes", "(III)V"⟩
abbrev cX8_sorts : ByteArray := prog_10_method_15_code
def yX8_sorts : MethodName := ⟨RX8, "sorts", "(I)V"⟩
abbrev cX8_hears : ByteArray := prog_10_method_16_code
def yX8_hears : MethodName := ⟨RX8, "hears", "(I)I"⟩
abbrev cX8_day : ByteArray := prog_10_method_17_code
def yX8_day : MethodName := ⟨RX8, "day", "(I)I"⟩
abbrev cX8_isDrone : ByteArray := prog_10_method_18_code
def yX8_isDrone : MethodName := ⟨RX8, "isDrone", "(I)Z"⟩
abbrev cX8_isPetition : ByteArray := prog_10_method_19_code
def yX8_isPetition : MethodName := ⟨RX8, "isPetition", "(I)Z"⟩
abbrev cX8_isDoing : ByteArray := prog_10_method_20_code
def yX8_isDoing : MethodName := ⟨RX8, "isDoing", "(I)Z"⟩
abbrev cX8_isComb : ByteArray := prog_10_method_21_code
def yX8_isComb : MethodName := ⟨RX8, "isComb", "(I)Z"⟩
abbrev cX8_comes : ByteArray := prog_10_method_22_code
def yX8_comes : MethodName := ⟨RX8, "comes", "(II)I"⟩
abbrev cX8_moves : ByteArray := prog_10_method_23_code
def yX8_moves : MethodName := ⟨RX8, "moves", "(II)I"⟩
abbrev cX8_petitions : ByteArray := prog_10_method_24_code
def yX8_petitions : MethodName := ⟨RX8, "petitions", "(IIII)I"⟩
abbrev cX8_seconds : ByteArray := prog_10_method_25_code
def yX8_seconds : MethodName := ⟨RX8, "seconds", "(II)I"⟩
abbrev cX8_ends : ByteArray := prog_10_method_26_code
def yX8_ends : MethodName := ⟨RX8, "ends", "(I)I"⟩
abbrev cX8_sets : ByteArray := prog_10_method_27_code
def yX8_sets : MethodName := ⟨RX8, "sets", "(II)I"⟩
abbrev cX8_done : ByteArray := prog_10_method_28_code
def yX8_done : MethodName := ⟨RX8, "done", "(I)I"⟩
abbrev cX8_come : ByteArray := prog_10_method_29_code
def yX8_come : MethodName := ⟨RX8, "come", "(II)I"⟩
abbrev cX8_move : ByteArray := prog_10_method_30_code
def yX8_move : MethodName := ⟨RX8, "move", "(II)I"⟩
abbrev cX8_petition : ByteArray := prog_10_method_31_code
def yX8_petition : MethodName := ⟨RX8, "petition", "(IIII)I"⟩
abbrev cX8_second : ByteArray := prog_10_method_32_code
def yX8_second : MethodName := ⟨RX8, "second", "(II)I"⟩
abbrev cX8_pass : ByteArray := prog_10_method_33_code
def yX8_pass : MethodName := ⟨RX8, "pass", "(I)I"⟩
abbrev cX8_set : ByteArray := prog_10_method_34_code
def yX8_set : MethodName := ⟨RX8, "set", "(II)I"⟩
abbrev cX8_type : ByteArray := prog_10_method_35_code
def yX8_type : MethodName := ⟨RX8, "type", "(C)I"⟩
abbrev cX8_clearText : ByteArray := prog_10_method_36_code
def yX8_clearText : MethodName := ⟨RX8, "clearText", "()I"⟩
abbrev cX8_isHere : ByteArray := prog_10_method_37_code
def yX8_isHere : MethodName := ⟨RX8, "isHere", "(II)Z"⟩
abbrev cX8_takes : ByteArray := prog_10_method_38_code
def yX8_takes : MethodName := ⟨RX8, "takes", "(I)Z"⟩
abbrev cX8_number : ByteArray := prog_10_method_39_code
def yX8_number : MethodName := ⟨RX8, "number", "(II)I"⟩
abbrev cX8_readsPetition : ByteArray := prog_10_method_40_code
def yX8_readsPetition : MethodName := ⟨RX8, "readsPetition", "()Z"⟩
abbrev cX8_readsThing : ByteArray := prog_10_method_41_code
def yX8_readsThing : MethodName := ⟨RX8, "readsThing", "()Z"⟩
abbrev cX8_fault : ByteArray := prog_10_method_42_code
def yX8_fault : MethodName := ⟨RX8, "fault", "()I"⟩
abbrev cX8_does : ByteArray := prog_10_method_43_code
def yX8_does : MethodName := ⟨RX8, "does", "()I"⟩
abbrev cX8_perform : ByteArray := prog_10_method_44_code
def yX8_perform : MethodName := ⟨RX8, "perform", "()I"⟩
abbrev cX8_stopped : ByteArray := prog_10_method_45_code
def yX8_stopped : MethodName := ⟨RX8, "stopped", "(I)I"⟩
abbrev cX8_undo : ByteArray := prog_10_method_46_code
def yX8_undo : MethodName := ⟨RX8, "undo", "()I"⟩
abbrev cX8_bylaws : ByteArray := prog_10_method_47_code
def yX8_bylaws : MethodName := ⟨RX8, "bylaws", "(Z)I"⟩
abbrev cX8_keep : ByteArray := prog_10_method_48_code
def yX8_keep : MethodName := ⟨RX8, "keep", "()I"⟩
abbrev cX8_restore : ByteArray := prog_10_method_49_code
def yX8_restore : MethodName := ⟨RX8, "restore", "()I"⟩
abbrev cX8_secondedBy : ByteArray := prog_10_method_50_code
def yX8_secondedBy : MethodName := ⟨RX8, "secondedBy", "(I)I"⟩
abbrev cX8_drone : ByteArray := prog_10_method_51_code
def yX8_drone : MethodName := ⟨RX8, "drone", "(II)I"⟩
abbrev cX8_ranked : ByteArray := prog_10_method_52_code
def yX8_ranked : MethodName := ⟨RX8, "ranked", "(I)I"⟩
abbrev cX8_rankOf : ByteArray := prog_10_method_53_code
def yX8_rankOf : MethodName := ⟨RX8, "rankOf", "(I)I"⟩
abbrev cX8_bylaw : ByteArray := prog_10_method_54_code
def yX8_bylaw : MethodName := ⟨RX8, "bylaw", "(II)I"⟩
abbrev cX8_petitionOf : ByteArray := prog_10_method_55_code
def yX8_petitionOf : MethodName := ⟨RX8, "petitionOf", "(II)I"⟩
abbrev cX8_heard : ByteArray := prog_10_method_56_code
def yX8_heard : MethodName := ⟨RX8, "heard", "(I)I"⟩
abbrev cX8_ruling : ByteArray := prog_10_method_57_code
def yX8_ruling : MethodName := ⟨RX8, "ruling", "(II)I"⟩
abbrev cX8_isAllowed : ByteArray := prog_10_method_58_code
def yX8_isAllowed : MethodName := ⟨RX8, "isAllowed", "(II)Z"⟩
abbrev cX8_rule : ByteArray := prog_10_method_59_code
def yX8_rule : MethodName := ⟨RX8, "rule", "(III)I"⟩
abbrev cX8_tries : ByteArray := prog_10_method_60_code
def yX8_tries : MethodName := ⟨RX8, "tries", "()V"⟩
abbrev cX8_reason : ByteArray := prog_10_method_61_code
def yX8_reason : MethodName := ⟨RX8, "reason", "(I)I"⟩
abbrev cX8_wouldPass : ByteArray := prog_10_method_62_code
def yX8_wouldPass : MethodName := ⟨RX8, "wouldPass", "()I"⟩
abbrev cX8_lacks : ByteArray := prog_10_method_63_code
def yX8_lacks : MethodName := ⟨RX8, "lacks", "(I)I"⟩
abbrev cX8_free : ByteArray := prog_10_method_64_code
def yX8_free : MethodName := ⟨RX8, "free", "()I"⟩
abbrev cX8_oldestAt : ByteArray := prog_10_method_65_code
def yX8_oldestAt : MethodName := ⟨RX8, "oldestAt", "(I)I"⟩
abbrev cX8_oldest : ByteArray := prog_10_method_66_code
def yX8_oldest : MethodName := ⟨RX8, "oldest", "(II)I"⟩
abbrev cX8_forbiddenAtCombs : ByteArray := prog_10_method_67_code
def yX8_forbiddenAtCombs : MethodName := ⟨RX8, "forbiddenAtCombs", "()I"⟩
abbrev cX8_count : ByteArray := prog_10_method_68_code
def yX8_count : MethodName := ⟨RX8, "count", "(I)I"⟩
def RJ10 : String := "java/lang/System"
def TJ10 : u_T := fun k => match k with
  | _ => ("", "", "", false)
def tyJ10 : Nat → FieldType := fun k => match k with
  | _ => .int
abbrev wsJ100 : List Cond := u_ws RJ10 TJ10 0
theorem nmJ10 : ∀ a, a < 0 → ∀ b, b < 0 → a ≠ b → (TJ10 a).2.1 ≠ (TJ10 b).2.1 := by decide +kernel
theorem tyJ10_ok : ∀ k, k < 0 → parseFieldDescriptor (TJ10 k).2.2.1 = some (tyJ10 k) := by decide +kernel
def RL : String := "HiveBylawsLaw"
abbrev cL_law : ByteArray := code
def yL_law : MethodName := ⟨RL, "law", "([I)Z"⟩
abbrev vwCl : List vw_C := [(RX0, TX0, 3), (RX1, TX1, 3), (RX2, TX2, 9), (RX3, TX3, 7), (RX4, TX4, 5), (RX5, TX5, 10), (RX6, TX6, 6), (RX7, TX7, 9), (RX8, TX8, 15)]
end
section
/-! the tables' words that go along to every method, and each word that a walk uses, by its place -/
def ws0 : List Cond := lw_tbl.filter goodWord
theorem ws0_tbl : ∀ w ∈ ws0, w ∈ lw_tbl := fun w h => (List.mem_filter.mp h).1
theorem ws0_self : GoodIn ws0 ws0 := fun w h => ⟨h, good_of_word (List.mem_filter.mp h).2⟩
theorem ws0_of {w : Cond} (h : w ∈ lw_tbl) (g : goodWord w = true) : w ∈ ws0 := List.mem_filter.mpr ⟨h, g⟩
theorem ws0_p {y : MethodName} {n : Nat} (h : (y, n) ∈ lw_privs) : Cond.selects y.cls y y ∈ ws0 := ws0_of (List.mem_append_left _ (List.mem_map.mpr ⟨(y, n), h, rfl⟩)) rfl
theorem ws0_1 {w : Cond} (h : w ∈ tables_1_1) (g : goodWord w = true) : w ∈ ws0 := ws0_of (List.mem_append_right _ (show w ∈ tables_1_1 ++ (tables_1_2 ++ (tables_1_3 ++ tables_1_4)) from (List.mem_append_left _ h))) g
theorem ws0_2 {w : Cond} (h : w ∈ tables_1_2) (g : goodWord w = true) : w ∈ ws0 := ws0_of (List.mem_append_right _ (show w ∈ tables_1_1 ++ (tables_1_2 ++ (tables_1_3 ++ tables_1_4)) from (List.mem_append_right _ (List.mem_append_left _ h)))) g
theorem ws0_3 {w : Cond} (h : w ∈ tables_1_3) (g : goodWord w = true) : w ∈ ws0 := ws0_of (List.mem_append_right _ (show w ∈ tables_1_1 ++ (tables_1_2 ++ (tables_1_3 ++ tables_1_4)) from (List.mem_append_right _ (List.mem_append_right _ (List.mem_append_left _ h))))) g
theorem ws0_4 {w : Cond} (h : w ∈ tables_1_4) (g : goodWord w = true) : w ∈ ws0 := ws0_of (List.mem_append_right _ (show w ∈ tables_1_1 ++ (tables_1_2 ++ (tables_1_3 ++ tables_1_4)) from (List.mem_append_right _ (List.mem_append_right _ (List.mem_append_right _ h))))) g
theorem ws0_q1 {q : MethodName × Nat} (h : q ∈ lw_privs_1) : q ∈ lw_privs := (show q ∈ lw_privs_1 ++ (lw_privs_2 ++ lw_privs_3) from (List.mem_append_left _ h))
theorem ws0_q2 {q : MethodName × Nat} (h : q ∈ lw_privs_2) : q ∈ lw_privs := (show q ∈ lw_privs_1 ++ (lw_privs_2 ++ lw_privs_3) from (List.mem_append_right _ (List.mem_append_left _ h)))
theorem ws0_q3 {q : MethodName × Nat} (h : q ∈ lw_privs_3) : q ∈ lw_privs := (show q ∈ lw_privs_1 ++ (lw_privs_2 ++ lw_privs_3) from (List.mem_append_right _ (List.mem_append_right _ h)))
theorem mw_0 : Cond.classLink RL 7 RX7 ∈ ws0 := ws0_1 (List.mem_of_getElem? (i := 11) rfl) rfl
theorem mw_1 : Cond.instantiable RX7 9 ∈ ws0 := ws0_1 (List.mem_of_getElem? (i := 12) rfl) rfl
theorem mw_2 : Cond.initialized RX7 ∈ ws0 := ws0_1 (List.mem_of_getElem? (i := 1) rfl) rfl
theorem mw_3 : Cond.classLink RL 10 RX8 ∈ ws0 := ws0_3 (List.mem_of_getElem? (i := 139) rfl) rfl
theorem mw_4 : Cond.instantiable RX8 15 ∈ ws0 := ws0_3 (List.mem_of_getElem? (i := 140) rfl) rfl
theorem mw_5 : Cond.initialized RX8 ∈ ws0 := ws0_1 (List.mem_of_getElem? (i := 9) rfl) rfl
theorem mw_6 : Cond.methodLink RL 9 yX7_init ∈ ws0 := ws0_1 (List.mem_of_getElem? (i := 13) rfl) rfl
theorem mw_7 : Cond.instanceMethod yX7_init ∈ ws0 := ws0_1 (List.mem_of_getElem? (i := 14) rfl) rfl
theorem mw_8 : Cond.code yX7_init cX7_init 1 none ∈ ws0 := ws0_1 (List.mem_of_getElem? (i := 15) rfl) rfl
theorem mw_9 : Cond.methodLink RX7 3 objectInit ∈ ws0 := ws0_1 (List.mem_of_getElem? (i := 16) rfl) rfl
theorem mw_10 : Cond.instanceMethod objectInit ∈ ws0 := ws0_1 (List.mem_of_getElem? (i := 17) rfl) rfl
theorem mw_11 : Cond.classLink RX7 9 RX5 ∈ ws0 := ws0_1 (List.mem_of_getElem? (i := 19) rfl) rfl
theorem mw_12 : Cond.instantiable RX5 10 ∈ ws0 := ws0_1 (List.mem_of_getElem? (i := 20) rfl) rfl
theorem mw_13 : Cond.initialized RX5 ∈ ws0 := ws0_1 (List.mem_of_getElem? (i := 2) rfl) rfl
theorem mw_14 : Cond.fieldLink RX7 12 "HiveBylaws" "state" "LHiveBylaws$State;" ∈ ws0 := ws0_2 (List.mem_of_getElem? (i := 16) rfl) rfl
theorem mw_15 : Cond.fieldLink RX7 16 "HiveBylaws" "before" "LHiveBylaws$State;" ∈ ws0 := ws0_2 (List.mem_of_getElem? (i := 17) rfl) rfl
theorem mw_16 : Cond.fieldLink RX7 19 "HiveBylaws" "trial" "LHiveBylaws$State;" ∈ ws0 := ws0_2 (List.mem_of_getElem? (i := 18) rfl) rfl
theorem mw_17 : Cond.fieldLink RX7 22 "HiveBylaws" "snapshot" "LHiveBylaws$State;" ∈ ws0 := ws0_2 (List.mem_of_getElem? (i := 19) rfl) rfl
theorem mw_18 : Cond.classLink RX7 25 RX0 ∈ ws0 := ws0_1 (List.mem_of_getElem? (i := 194) rfl) rfl
theorem mw_19 : Cond.instantiable RX0 3 ∈ ws0 := ws0_1 (List.mem_of_getElem? (i := 195) rfl) rfl
theorem mw_20 : Cond.initialized RX0 ∈ ws0 := ws0_1 (List.mem_of_getElem? (i := 7) rfl) rfl
theorem mw_21 : Cond.fieldLink RX7 28 "HiveBylaws" "history" "LHiveBylaws$History;" ∈ ws0 := ws0_2 (List.mem_of_getElem? (i := 21) rfl) rfl
theorem mw_22 : Cond.classLink RX7 32 RX2 ∈ ws0 := ws0_1 (List.mem_of_getElem? (i := 214) rfl) rfl
theorem mw_23 : Cond.instantiable RX2 9 ∈ ws0 := ws0_1 (List.mem_of_getElem? (i := 215) rfl) rfl
theorem mw_24 : Cond.initialized RX2 ∈ ws0 := ws0_1 (List.mem_of_getElem? (i := 8) rfl) rfl
theorem mw_25 : Cond.fieldLink RX7 35 "HiveBylaws" "text" "LHiveBylaws$PetitionText;" ∈ ws0 := ws0_2 (List.mem_of_getElem? (i := 22) rfl) rfl
theorem mw_26 : Cond.methodLink RX7 11 yX5_init ∈ ws0 := ws0_1 (List.mem_of_getElem? (i := 21) rfl) rfl
theorem mw_27 : Cond.instanceMethod yX5_init ∈ ws0 := ws0_1 (List.mem_of_getElem? (i := 22) rfl) rfl
theorem mw_28 : Cond.code yX5_init cX5_init 1 none ∈ ws0 := ws0_1 (List.mem_of_getElem? (i := 23) rfl) rfl
theorem mw_29 : Cond.methodLink RX5 3 objectInit ∈ ws0 := ws0_1 (List.mem_of_getElem? (i := 24) rfl) rfl
theorem mw_30 : Cond.classLink RX5 9 RX6 ∈ ws0 := ws0_1 (List.mem_of_getElem? (i := 25) rfl) rfl
theorem mw_31 : Cond.instantiable RX6 6 ∈ ws0 := ws0_1 (List.mem_of_getElem? (i := 26) rfl) rfl
theorem mw_32 : Cond.initialized RX6 ∈ ws0 := ws0_1 (List.mem_of_getElem? (i := 3) rfl) rfl
theorem mw_33 : Cond.fieldLink RX5 12 "HiveBylaws$State" "swarm" "LHiveBylaws$Swarm;" ∈ ws0 := ws0_1 (List.mem_of_getElem? (i := 154) rfl) rfl
theorem mw_34 : Cond.classLink RX5 18 RX1 ∈ ws0 := ws0_1 (List.mem_of_getElem? (i := 63) rfl) rfl
theorem mw_35 : Cond.instantiable RX1 3 ∈ ws0 := ws0_1 (List.mem_of_getElem? (i := 64) rfl) rfl
theorem mw_36 : Cond.initialized RX1 ∈ ws0 := ws0_1 (List.mem_of_getElem? (i := 4) rfl) rfl
theorem mw_37 : Cond.fieldLink RX5 21 "HiveBylaws$State" "laws" "LHiveBylaws$Laws;" ∈ ws0 := ws0_1 (List.mem_of_getElem? (i := 156) rfl) rfl
theorem mw_38 : Cond.classLink RX5 25 RX3 ∈ ws0 := ws0_1 (List.mem_of_getElem? (i := 85) rfl) rfl
theorem mw_39 : Cond.instantiable RX3 7 ∈ ws0 := ws0_1 (List.mem_of_getElem? (i := 86) rfl) rfl
theorem mw_40 : Cond.initialized RX3 ∈ ws0 := ws0_1 (List.mem_of_getElem? (i := 5) rfl) rfl
theorem mw_41 : Cond.fieldLink RX5 28 "HiveBylaws$State" "petitions" "LHiveBylaws$Petitions;" ∈ ws0 := ws0_1 (List.mem_of_getElem? (i := 158) rfl) rfl
theorem mw_42 : Cond.classLink RX5 32 RX4 ∈ ws0 := ws0_1 (List.mem_of_getElem? (i := 131) rfl) rfl
theorem mw_43 : Cond.instantiable RX4 5 ∈ ws0 := ws0_1 (List.mem_of_getElem? (i := 132) rfl) rfl
theorem mw_44 : Cond.initialized RX4 ∈ ws0 := ws0_1 (List.mem_of_getElem? (i := 6) rfl) rfl
theorem mw_45 : Cond.fieldLink RX5 35 "HiveBylaws$State" "refusals" "LHiveBylaws$Refusals;" ∈ ws0 := ws0_1 (List.mem_of_getElem? (i := 160) rfl) rfl
theorem mw_46 : Cond.arrayClass .int ∈ ws0 := ws0_1 (List.mem_of_getElem? (i := 62) rfl) rfl
theorem mw_47 : Cond.fieldLink RX5 39 "HiveBylaws$State" "setting" "[I" ∈ ws0 := ws0_1 (List.mem_of_getElem? (i := 161) rfl) rfl
theorem mw_48 : Cond.fieldLink RX5 43 "HiveBylaws$State" "verdict" "[I" ∈ ws0 := ws0_1 (List.mem_of_getElem? (i := 171) rfl) rfl
theorem mw_49 : Cond.methodLink RX5 11 yX6_init ∈ ws0 := ws0_1 (List.mem_of_getElem? (i := 27) rfl) rfl
theorem mw_50 : Cond.instanceMethod yX6_init ∈ ws0 := ws0_1 (List.mem_of_getElem? (i := 28) rfl) rfl
theorem mw_51 : Cond.code yX6_init cX6_init 1 none ∈ ws0 := ws0_1 (List.mem_of_getElem? (i := 29) rfl) rfl
theorem mw_52 : Cond.methodLink RX6 3 objectInit ∈ ws0 := ws0_1 (List.mem_of_getElem? (i := 30) rfl) rfl
theorem mw_53 : Cond.fieldLink RX6 9 "HiveBylaws$Swarm" "comb" "[I" ∈ ws0 := ws0_1 (List.mem_of_getElem? (i := 34) rfl) rfl
theorem mw_54 : Cond.fieldLink RX6 15 "HiveBylaws$Swarm" "weight" "[I" ∈ ws0 := ws0_1 (List.mem_of_getElem? (i := 37) rfl) rfl
theorem mw_55 : Cond.fieldLink RX6 18 "HiveBylaws$Swarm" "made" "[I" ∈ ws0 := ws0_1 (List.mem_of_getElem? (i := 40) rfl) rfl
theorem mw_56 : Cond.fieldLink RX6 21 "HiveBylaws$Swarm" "passed" "[I" ∈ ws0 := ws0_1 (List.mem_of_getElem? (i := 43) rfl) rfl
theorem mw_57 : Cond.fieldLink RX6 24 "HiveBylaws$Swarm" "refused" "[I" ∈ ws0 := ws0_1 (List.mem_of_getElem? (i := 46) rfl) rfl
theorem mw_58 : Cond.methodLink RX5 20 yX1_init ∈ ws0 := ws0_1 (List.mem_of_getElem? (i := 65) rfl) rfl
theorem mw_59 : Cond.instanceMethod yX1_init ∈ ws0 := ws0_1 (List.mem_of_getElem? (i := 66) rfl) rfl
theorem mw_60 : Cond.code yX1_init cX1_init 1 none ∈ ws0 := ws0_1 (List.mem_of_getElem? (i := 67) rfl) rfl
theorem mw_61 : Cond.methodLink RX1 3 objectInit ∈ ws0 := ws0_1 (List.mem_of_getElem? (i := 68) rfl) rfl
theorem mw_62 : Cond.fieldLink RX1 9 "HiveBylaws$Laws" "stance" "[I" ∈ ws0 := ws0_1 (List.mem_of_getElem? (i := 69) rfl) rfl
theorem mw_63 : Cond.fieldLink RX1 15 "HiveBylaws$Laws" "strength" "[I" ∈ ws0 := ws0_1 (List.mem_of_getElem? (i := 72) rfl) rfl
theorem mw_64 : Cond.fieldLink RX1 18 "HiveBylaws$Laws" "season" "[I" ∈ ws0 := ws0_1 (List.mem_of_getElem? (i := 75) rfl) rfl
theorem mw_65 : Cond.methodLink RX5 27 yX3_init ∈ ws0 := ws0_1 (List.mem_of_getElem? (i := 87) rfl) rfl
theorem mw_66 : Cond.instanceMethod yX3_init ∈ ws0 := ws0_1 (List.mem_of_getElem? (i := 88) rfl) rfl
theorem mw_67 : Cond.code yX3_init cX3_init 1 none ∈ ws0 := ws0_1 (List.mem_of_getElem? (i := 89) rfl) rfl
theorem mw_68 : Cond.methodLink RX3 3 objectInit ∈ ws0 := ws0_1 (List.mem_of_getElem? (i := 90) rfl) rfl
theorem mw_69 : Cond.fieldLink RX3 9 "HiveBylaws$Petitions" "drone" "[I" ∈ ws0 := ws0_1 (List.mem_of_getElem? (i := 94) rfl) rfl
theorem mw_70 : Cond.fieldLink RX3 15 "HiveBylaws$Petitions" "place" "[I" ∈ ws0 := ws0_1 (List.mem_of_getElem? (i := 97) rfl) rfl
theorem mw_71 : Cond.fieldLink RX3 18 "HiveBylaws$Petitions" "doing" "[I" ∈ ws0 := ws0_1 (List.mem_of_getElem? (i := 101) rfl) rfl
theorem mw_72 : Cond.fieldLink RX3 21 "HiveBylaws$Petitions" "kind" "[I" ∈ ws0 := ws0_1 (List.mem_of_getElem? (i := 105) rfl) rfl
theorem mw_73 : Cond.fieldLink RX3 24 "HiveBylaws$Petitions" "support" "[I" ∈ ws0 := ws0_1 (List.mem_of_getElem? (i := 109) rfl) rfl
theorem mw_74 : Cond.fieldLink RX3 27 "HiveBylaws$Petitions" "seconders" "[I" ∈ ws0 := ws0_1 (List.mem_of_getElem? (i := 113) rfl) rfl
theorem mw_75 : Cond.methodLink RX5 34 yX4_init ∈ ws0 := ws0_1 (List.mem_of_getElem? (i := 133) rfl) rfl
theorem mw_76 : Cond.instanceMethod yX4_init ∈ ws0 := ws0_1 (List.mem_of_getElem? (i := 134) rfl) rfl
theorem mw_77 : Cond.code yX4_init cX4_init 1 none ∈ ws0 := ws0_1 (List.mem_of_getElem? (i := 135) rfl) rfl
theorem mw_78 : Cond.methodLink RX4 3 objectInit ∈ ws0 := ws0_1 (List.mem_of_getElem? (i := 136) rfl) rfl
theorem mw_79 : Cond.fieldLink RX4 9 "HiveBylaws$Refusals" "place" "[I" ∈ ws0 := ws0_1 (List.mem_of_getElem? (i := 139) rfl) rfl
theorem mw_80 : Cond.fieldLink RX4 15 "HiveBylaws$Refusals" "doing" "[I" ∈ ws0 := ws0_1 (List.mem_of_getElem? (i := 140) rfl) rfl
theorem mw_81 : Cond.fieldLink RX4 18 "HiveBylaws$Refusals" "kind" "[I" ∈ ws0 := ws0_1 (List.mem_of_getElem? (i := 141) rfl) rfl
theorem mw_82 : Cond.fieldLink RX4 21 "HiveBylaws$Refusals" "support" "[I" ∈ ws0 := ws0_1 (List.mem_of_getElem? (i := 142) rfl) rfl
theorem mw_83 : Cond.methodLink RX7 27 yX0_init ∈ ws0 := ws0_1 (List.mem_of_getElem? (i := 196) rfl) rfl
theorem mw_84 : Cond.instanceMethod yX0_init ∈ ws0 := ws0_1 (List.mem_of_getElem? (i := 197) rfl) rfl
theorem mw_85 : Cond.code yX0_init cX0_init 2 none ∈ ws0 := ws0_1 (List.mem_of_getElem? (i := 198) rfl) rfl
theorem mw_86 : Cond.methodLink RX0 3 objectInit ∈ ws0 := ws0_1 (List.mem_of_getElem? (i := 199) rfl) rfl
theorem mw_87 : Cond.classLink RX0 9 RX5 ∈ ws0 := ws0_1 (List.mem_of_getElem? (i := 200) rfl) rfl
theorem mw_88 : Cond.fieldLink RX0 11 "HiveBylaws$History" "ring" "[LHiveBylaws$State;" ∈ ws0 := ws0_1 (List.mem_of_getElem? (i := 203) rfl) rfl
theorem mw_89 : Cond.methodLink RX0 17 yX5_init ∈ ws0 := ws0_1 (List.mem_of_getElem? (i := 202) rfl) rfl
theorem mw_90 : Cond.methodLink RX7 34 yX2_init ∈ ws0 := ws0_1 (List.mem_of_getElem? (i := 216) rfl) rfl
theorem mw_91 : Cond.instanceMethod yX2_init ∈ ws0 := ws0_1 (List.mem_of_getElem? (i := 217) rfl) rfl
theorem mw_92 : Cond.code yX2_init cX2_init 1 none ∈ ws0 := ws0_1 (List.mem_of_getElem? (i := 218) rfl) rfl
theorem mw_93 : Cond.methodLink RX2 3 objectInit ∈ ws0 := ws0_1 (List.mem_of_getElem? (i := 219) rfl) rfl
theorem mw_94 : Cond.arrayClass .char ∈ ws0 := ws0_2 (List.mem_of_getElem? (i := 15) rfl) rfl
theorem mw_95 : Cond.fieldLink RX2 9 "HiveBylaws$PetitionText" "characters" "[C" ∈ ws0 := ws0_1 (List.mem_of_getElem? (i := 220) rfl) rfl
theorem mw_96 : Cond.fieldLink RX2 15 "HiveBylaws$PetitionText" "act" "[I" ∈ ws0 := ws0_1 (List.mem_of_getElem? (i := 226) rfl) rfl
theorem mw_97 : Cond.fieldLink RX2 19 "HiveBylaws$PetitionText" "drone" "[I" ∈ ws0 := ws0_1 (List.mem_of_getElem? (i := 228) rfl) rfl
theorem mw_98 : Cond.fieldLink RX2 22 "HiveBylaws$PetitionText" "number" "[I" ∈ ws0 := ws0_1 (List.mem_of_getElem? (i := 230) rfl) rfl
theorem mw_99 : Cond.fieldLink RX2 25 "HiveBylaws$PetitionText" "doing" "[I" ∈ ws0 := ws0_1 (List.mem_of_getElem? (i := 232) rfl) rfl
theorem mw_100 : Cond.fieldLink RX2 28 "HiveBylaws$PetitionText" "kind" "[I" ∈ ws0 := ws0_1 (List.mem_of_getElem? (i := 234) rfl) rfl
theorem mw_101 : Cond.methodLink RL 12 yX8_init ∈ ws0 := ws0_3 (List.mem_of_getElem? (i := 141) rfl) rfl
theorem mw_102 : Cond.instanceMethod yX8_init ∈ ws0 := ws0_3 (List.mem_of_getElem? (i := 142) rfl) rfl
theorem mw_103 : Cond.code yX8_init cX8_init 2 none ∈ ws0 := ws0_3 (List.mem_of_getElem? (i := 143) rfl) rfl
theorem mw_104 : Cond.methodLink RX8 1 objectInit ∈ ws0 := ws0_3 (List.mem_of_getElem? (i := 144) rfl) rfl
theorem mw_105 : Cond.fieldLink RX8 7 "HiveBylawsModel" "s" "[I" ∈ ws0 := ws0_3 (List.mem_of_getElem? (i := 145) rfl) rfl
theorem mw_106 : Cond.fieldLink RX8 13 "HiveBylawsModel" "text" "[I" ∈ ws0 := ws0_3 (List.mem_of_getElem? (i := 148) rfl) rfl
theorem mw_107 : Cond.fieldLink RX8 16 "HiveBylawsModel" "stopNumber" "I" ∈ ws0 := ws0_3 (List.mem_of_getElem? (i := 150) rfl) rfl
theorem mw_108 : Cond.fieldLink RX8 20 "HiveBylawsModel" "stopError" "I" ∈ ws0 := ws0_3 (List.mem_of_getElem? (i := 151) rfl) rfl
theorem mw_109 : Cond.fieldLink RX8 23 "HiveBylawsModel" "order" "[I" ∈ ws0 := ws0_3 (List.mem_of_getElem? (i := 152) rfl) rfl
theorem mw_110 : Cond.fieldLink RX8 26 "HiveBylawsModel" "reasons" "[I" ∈ ws0 := ws0_3 (List.mem_of_getElem? (i := 153) rfl) rfl
theorem mw_111 : Cond.methodLink RL 13 yX7_come ∈ ws0 := ws0_2 (List.mem_of_getElem? (i := 44) rfl) rfl
theorem mw_112 : Cond.instanceMethod yX7_come ∈ ws0 := ws0_2 (List.mem_of_getElem? (i := 45) rfl) rfl
theorem mw_113 : Cond.selects RX7 yX7_come yX7_come ∈ ws0 := ws0_2 (List.mem_of_getElem? (i := 46) rfl) rfl
theorem mw_114 : Cond.code yX7_come cX7_come 3 (some .int) ∈ ws0 := ws0_2 (List.mem_of_getElem? (i := 47) rfl) rfl
theorem mw_115 : Cond.methodLink RX7 39 yX5_copyFrom ∈ ws0 := ws0_2 (List.mem_of_getElem? (i := 48) rfl) rfl
theorem mw_116 : Cond.instanceMethod yX5_copyFrom ∈ ws0 := ws0_2 (List.mem_of_getElem? (i := 49) rfl) rfl
theorem mw_117 : Cond.selects RX5 yX5_copyFrom yX5_copyFrom ∈ ws0 := ws0_2 (List.mem_of_getElem? (i := 50) rfl) rfl
theorem mw_118 : Cond.code yX5_copyFrom cX5_copyFrom 2 none ∈ ws0 := ws0_2 (List.mem_of_getElem? (i := 51) rfl) rfl
theorem mw_119 : Cond.fieldLink RX5 59 "HiveBylaws$State" "day" "I" ∈ ws0 := ws0_1 (List.mem_of_getElem? (i := 163) rfl) rfl
theorem mw_120 : Cond.fieldLink RX5 63 "HiveBylaws$State" "season" "I" ∈ ws0 := ws0_1 (List.mem_of_getElem? (i := 165) rfl) rfl
theorem mw_121 : Cond.fieldLink RX5 66 "HiveBylaws$State" "daysOfSeason" "I" ∈ ws0 := ws0_1 (List.mem_of_getElem? (i := 167) rfl) rfl
theorem mw_122 : Cond.fieldLink RX5 69 "HiveBylaws$State" "repeals" "I" ∈ ws0 := ws0_1 (List.mem_of_getElem? (i := 169) rfl) rfl
theorem mw_123 : Cond.methodLink RX5 46 yX6_copyFrom ∈ ws0 := ws0_2 (List.mem_of_getElem? (i := 52) rfl) rfl
theorem mw_124 : Cond.instanceMethod yX6_copyFrom ∈ ws0 := ws0_2 (List.mem_of_getElem? (i := 53) rfl) rfl
theorem mw_125 : Cond.selects RX6 yX6_copyFrom yX6_copyFrom ∈ ws0 := ws0_2 (List.mem_of_getElem? (i := 54) rfl) rfl
theorem mw_126 : Cond.code yX6_copyFrom cX6_copyFrom 2 none ∈ ws0 := ws0_2 (List.mem_of_getElem? (i := 55) rfl) rfl
theorem mw_127 : Cond.fieldLink RX6 27 "HiveBylaws$Swarm" "size" "I" ∈ ws0 := ws0_1 (List.mem_of_getElem? (i := 31) rfl) rfl
theorem mw_128 : Cond.methodLink RX6 31 arraycopyName ∈ ws0 := ws0_2 (List.mem_of_getElem? (i := 56) rfl) rfl
theorem mw_129 : Cond.native arraycopyName ∈ ws0 := ws0_2 (List.mem_of_getElem? (i := 58) rfl) rfl
theorem mw_130 : Cond.static arraycopyName ∈ ws0 := ws0_2 (List.mem_of_getElem? (i := 57) rfl) rfl
theorem mw_131 : Cond.initialized "java/lang/System" ∈ ws0 := ws0_1 (List.mem_of_getElem? (i := 10) rfl) rfl
theorem mw_132 : Cond.methodLink RX5 50 yX1_copyFrom ∈ ws0 := ws0_2 (List.mem_of_getElem? (i := 59) rfl) rfl
theorem mw_133 : Cond.instanceMethod yX1_copyFrom ∈ ws0 := ws0_2 (List.mem_of_getElem? (i := 60) rfl) rfl
theorem mw_134 : Cond.selects RX1 yX1_copyFrom yX1_copyFrom ∈ ws0 := ws0_2 (List.mem_of_getElem? (i := 61) rfl) rfl
theorem mw_135 : Cond.code yX1_copyFrom cX1_copyFrom 2 none ∈ ws0 := ws0_2 (List.mem_of_getElem? (i := 62) rfl) rfl
theorem mw_136 : Cond.methodLink RX1 21 arraycopyName ∈ ws0 := ws0_2 (List.mem_of_getElem? (i := 63) rfl) rfl
theorem mw_137 : Cond.methodLink RX5 53 yX3_copyFrom ∈ ws0 := ws0_2 (List.mem_of_getElem? (i := 64) rfl) rfl
theorem mw_138 : Cond.instanceMethod yX3_copyFrom ∈ ws0 := ws0_2 (List.mem_of_getElem? (i := 65) rfl) rfl
theorem mw_139 : Cond.selects RX3 yX3_copyFrom yX3_copyFrom ∈ ws0 := ws0_2 (List.mem_of_getElem? (i := 66) rfl) rfl
theorem mw_140 : Cond.code yX3_copyFrom cX3_copyFrom 2 none ∈ ws0 := ws0_2 (List.mem_of_getElem? (i := 67) rfl) rfl
theorem mw_141 : Cond.fieldLink RX3 30 "HiveBylaws$Petitions" "size" "I" ∈ ws0 := ws0_1 (List.mem_of_getElem? (i := 91) rfl) rfl
theorem mw_142 : Cond.methodLink RX3 34 arraycopyName ∈ ws0 := ws0_2 (List.mem_of_getElem? (i := 68) rfl) rfl
theorem mw_143 : Cond.methodLink RX5 56 yX4_copyFrom ∈ ws0 := ws0_2 (List.mem_of_getElem? (i := 69) rfl) rfl
theorem mw_144 : Cond.instanceMethod yX4_copyFrom ∈ ws0 := ws0_2 (List.mem_of_getElem? (i := 70) rfl) rfl
theorem mw_145 : Cond.selects RX4 yX4_copyFrom yX4_copyFrom ∈ ws0 := ws0_2 (List.mem_of_getElem? (i := 71) rfl) rfl
theorem mw_146 : Cond.code yX4_copyFrom cX4_copyFrom 2 none ∈ ws0 := ws0_2 (List.mem_of_getElem? (i := 72) rfl) rfl
theorem mw_147 : Cond.fieldLink RX4 24 "HiveBylaws$Refusals" "size" "I" ∈ ws0 := ws0_1 (List.mem_of_getElem? (i := 137) rfl) rfl
theorem mw_148 : Cond.methodLink RX4 28 arraycopyName ∈ ws0 := ws0_2 (List.mem_of_getElem? (i := 73) rfl) rfl
theorem mw_149 : Cond.methodLink RX7 43 yX5_addDrone ∈ ws0 := ws0_2 (List.mem_of_getElem? (i := 74) rfl) rfl
theorem mw_150 : Cond.instanceMethod yX5_addDrone ∈ ws0 := ws0_2 (List.mem_of_getElem? (i := 75) rfl) rfl
theorem mw_151 : Cond.selects RX5 yX5_addDrone yX5_addDrone ∈ ws0 := ws0_2 (List.mem_of_getElem? (i := 76) rfl) rfl
theorem mw_152 : Cond.code yX5_addDrone cX5_addDrone 3 (some .int) ∈ ws0 := ws0_2 (List.mem_of_getElem? (i := 77) rfl) rfl
theorem mw_153 : Cond.fieldLink RX5 76 "HiveBylaws$Swarm" "size" "I" ∈ ws0 := ws0_1 (List.mem_of_getElem? (i := 32) rfl) rfl
theorem mw_154 : Cond.static yX7_isComb ∈ ws0 := ws0_2 (List.mem_of_getElem? (i := 79) rfl) rfl
theorem mw_155 : Cond.code yX7_isComb cX7_isComb 1 (some .boolean) ∈ ws0 := ws0_2 (List.mem_of_getElem? (i := 80) rfl) rfl
theorem mw_156 : Cond.methodLink RX5 79 yX6_add ∈ ws0 := ws0_2 (List.mem_of_getElem? (i := 81) rfl) rfl
theorem mw_157 : Cond.instanceMethod yX6_add ∈ ws0 := ws0_2 (List.mem_of_getElem? (i := 82) rfl) rfl
theorem mw_158 : Cond.selects RX6 yX6_add yX6_add ∈ ws0 := ws0_2 (List.mem_of_getElem? (i := 83) rfl) rfl
theorem mw_159 : Cond.code yX6_add cX6_add 3 (some .int) ∈ ws0 := ws0_2 (List.mem_of_getElem? (i := 84) rfl) rfl
theorem mw_160 : Cond.methodLink RX7 47 yX7_recorded ∈ ws0 := ws0_2 (List.mem_of_getElem? (i := 85) rfl) rfl
theorem mw_161 : Cond.instanceMethod yX7_recorded ∈ ws0 := ws0_2 (List.mem_of_getElem? (i := 87) rfl) rfl
theorem mw_162 : Cond.selects RX7 yX7_recorded yX7_recorded ∈ ws0 := ws0_p (n := 9) (ws0_q1 (List.mem_of_getElem? (i := 0) rfl))
theorem mw_163 : Cond.code yX7_recorded cX7_recorded 2 (some .int) ∈ ws0 := ws0_2 (List.mem_of_getElem? (i := 88) rfl) rfl
theorem mw_164 : Cond.methodLink RX7 250 yX0_remember ∈ ws0 := ws0_2 (List.mem_of_getElem? (i := 89) rfl) rfl
theorem mw_165 : Cond.instanceMethod yX0_remember ∈ ws0 := ws0_2 (List.mem_of_getElem? (i := 90) rfl) rfl
theorem mw_166 : Cond.selects RX0 yX0_remember yX0_remember ∈ ws0 := ws0_2 (List.mem_of_getElem? (i := 91) rfl) rfl
theorem mw_167 : Cond.code yX0_remember cX0_remember 2 none ∈ ws0 := ws0_2 (List.mem_of_getElem? (i := 92) rfl) rfl
theorem mw_168 : Cond.fieldLink RX0 18 "HiveBylaws$History" "size" "I" ∈ ws0 := ws0_1 (List.mem_of_getElem? (i := 205) rfl) rfl
theorem mw_169 : Cond.fieldLink RX0 22 "HiveBylaws$History" "first" "I" ∈ ws0 := ws0_1 (List.mem_of_getElem? (i := 204) rfl) rfl
theorem mw_170 : Cond.methodLink RX0 25 yX5_copyFrom ∈ ws0 := ws0_2 (List.mem_of_getElem? (i := 93) rfl) rfl
theorem mw_171 : Cond.methodLink RL 17 yX8_come ∈ ws0 := ws0_3 (List.mem_of_getElem? (i := 191) rfl) rfl
theorem mw_172 : Cond.instanceMethod yX8_come ∈ ws0 := ws0_3 (List.mem_of_getElem? (i := 192) rfl) rfl
theorem mw_173 : Cond.selects RX8 yX8_come yX8_come ∈ ws0 := ws0_3 (List.mem_of_getElem? (i := 193) rfl) rfl
theorem mw_174 : Cond.code yX8_come cX8_come 3 (some .int) ∈ ws0 := ws0_3 (List.mem_of_getElem? (i := 194) rfl) rfl
theorem mw_175 : Cond.methodLink RX8 32 yX8_copies ∈ ws0 := ws0_3 (List.mem_of_getElem? (i := 195) rfl) rfl
theorem mw_176 : Cond.instanceMethod yX8_copies ∈ ws0 := ws0_3 (List.mem_of_getElem? (i := 197) rfl) rfl
theorem mw_177 : Cond.selects RX8 yX8_copies yX8_copies ∈ ws0 := ws0_p (n := 15) (ws0_q1 (List.mem_of_getElem? (i := 12) rfl))
theorem mw_178 : Cond.code yX8_copies cX8_copies 4 none ∈ ws0 := ws0_3 (List.mem_of_getElem? (i := 198) rfl) rfl
theorem mw_179 : Cond.methodLink RX8 100 yX8_comes ∈ ws0 := ws0_3 (List.mem_of_getElem? (i := 199) rfl) rfl
theorem mw_180 : Cond.instanceMethod yX8_comes ∈ ws0 := ws0_3 (List.mem_of_getElem? (i := 201) rfl) rfl
theorem mw_181 : Cond.selects RX8 yX8_comes yX8_comes ∈ ws0 := ws0_p (n := 15) (ws0_q1 (List.mem_of_getElem? (i := 13) rfl))
theorem mw_182 : Cond.code yX8_comes cX8_comes 5 (some .int) ∈ ws0 := ws0_3 (List.mem_of_getElem? (i := 202) rfl) rfl
theorem mw_183 : Cond.methodLink RX8 80 yX8_isComb ∈ ws0 := ws0_3 (List.mem_of_getElem? (i := 203) rfl) rfl
theorem mw_184 : Cond.static yX8_isComb ∈ ws0 := ws0_3 (List.mem_of_getElem? (i := 204) rfl) rfl
theorem mw_185 : Cond.code yX8_isComb cX8_isComb 1 (some .boolean) ∈ ws0 := ws0_3 (List.mem_of_getElem? (i := 205) rfl) rfl
theorem mw_186 : Cond.methodLink RX8 76 yX8_in ∈ ws0 := ws0_3 (List.mem_of_getElem? (i := 206) rfl) rfl
theorem mw_187 : Cond.static yX8_in ∈ ws0 := ws0_3 (List.mem_of_getElem? (i := 207) rfl) rfl
theorem mw_188 : Cond.code yX8_in cX8_in 3 (some .boolean) ∈ ws0 := ws0_3 (List.mem_of_getElem? (i := 208) rfl) rfl
theorem mw_189 : Cond.methodLink RX8 40 yX8_droneAt ∈ ws0 := ws0_3 (List.mem_of_getElem? (i := 209) rfl) rfl
theorem mw_190 : Cond.static yX8_droneAt ∈ ws0 := ws0_3 (List.mem_of_getElem? (i := 210) rfl) rfl
theorem mw_191 : Cond.code yX8_droneAt cX8_droneAt 2 (some .int) ∈ ws0 := ws0_3 (List.mem_of_getElem? (i := 211) rfl) rfl
theorem mw_192 : Cond.methodLink RX8 103 yX8_done ∈ ws0 := ws0_3 (List.mem_of_getElem? (i := 212) rfl) rfl
theorem mw_193 : Cond.instanceMethod yX8_done ∈ ws0 := ws0_3 (List.mem_of_getElem? (i := 214) rfl) rfl
theorem mw_194 : Cond.selects RX8 yX8_done yX8_done ∈ ws0 := ws0_p (n := 15) (ws0_q1 (List.mem_of_getElem? (i := 14) rfl))
theorem mw_195 : Cond.code yX8_done cX8_done 2 (some .int) ∈ ws0 := ws0_3 (List.mem_of_getElem? (i := 215) rfl) rfl
theorem mw_196 : Cond.methodLink RX8 97 yX8_records ∈ ws0 := ws0_3 (List.mem_of_getElem? (i := 216) rfl) rfl
theorem mw_197 : Cond.instanceMethod yX8_records ∈ ws0 := ws0_3 (List.mem_of_getElem? (i := 218) rfl) rfl
theorem mw_198 : Cond.selects RX8 yX8_records yX8_records ∈ ws0 := ws0_p (n := 15) (ws0_q1 (List.mem_of_getElem? (i := 15) rfl))
theorem mw_199 : Cond.code yX8_records cX8_records 3 none ∈ ws0 := ws0_3 (List.mem_of_getElem? (i := 219) rfl) rfl
theorem mw_200 : Cond.fieldLink RX8 29 "HiveBylawsModel" "states" "I" ∈ ws0 := ws0_3 (List.mem_of_getElem? (i := 146) rfl) rfl
theorem mw_201 : Cond.methodLink RL 18 yX7_move ∈ ws0 := ws0_2 (List.mem_of_getElem? (i := 94) rfl) rfl
theorem mw_202 : Cond.instanceMethod yX7_move ∈ ws0 := ws0_2 (List.mem_of_getElem? (i := 95) rfl) rfl
theorem mw_203 : Cond.selects RX7 yX7_move yX7_move ∈ ws0 := ws0_2 (List.mem_of_getElem? (i := 96) rfl) rfl
theorem mw_204 : Cond.code yX7_move cX7_move 3 (some .int) ∈ ws0 := ws0_2 (List.mem_of_getElem? (i := 97) rfl) rfl
theorem mw_205 : Cond.methodLink RX7 51 yX5_moveDrone ∈ ws0 := ws0_2 (List.mem_of_getElem? (i := 98) rfl) rfl
theorem mw_206 : Cond.instanceMethod yX5_moveDrone ∈ ws0 := ws0_2 (List.mem_of_getElem? (i := 99) rfl) rfl
theorem mw_207 : Cond.selects RX5 yX5_moveDrone yX5_moveDrone ∈ ws0 := ws0_2 (List.mem_of_getElem? (i := 100) rfl) rfl
theorem mw_208 : Cond.code yX5_moveDrone cX5_moveDrone 4 (some .int) ∈ ws0 := ws0_2 (List.mem_of_getElem? (i := 101) rfl) rfl
theorem mw_209 : Cond.fieldLink RX5 86 "HiveBylaws$Swarm" "comb" "[I" ∈ ws0 := ws0_1 (List.mem_of_getElem? (i := 35) rfl) rfl
theorem mw_210 : Cond.methodLink RX5 83 yX6_knows ∈ ws0 := ws0_2 (List.mem_of_getElem? (i := 102) rfl) rfl
theorem mw_211 : Cond.instanceMethod yX6_knows ∈ ws0 := ws0_2 (List.mem_of_getElem? (i := 103) rfl) rfl
theorem mw_212 : Cond.selects RX6 yX6_knows yX6_knows ∈ ws0 := ws0_2 (List.mem_of_getElem? (i := 104) rfl) rfl
theorem mw_213 : Cond.code yX6_knows cX6_knows 2 (some .boolean) ∈ ws0 := ws0_2 (List.mem_of_getElem? (i := 105) rfl) rfl
theorem mw_214 : Cond.methodLink RL 21 yX8_move ∈ ws0 := ws0_3 (List.mem_of_getElem? (i := 220) rfl) rfl
theorem mw_215 : Cond.instanceMethod yX8_move ∈ ws0 := ws0_3 (List.mem_of_getElem? (i := 221) rfl) rfl
theorem mw_216 : Cond.selects RX8 yX8_move yX8_move ∈ ws0 := ws0_3 (List.mem_of_getElem? (i := 222) rfl) rfl
theorem mw_217 : Cond.code yX8_move cX8_move 3 (some .int) ∈ ws0 := ws0_3 (List.mem_of_getElem? (i := 223) rfl) rfl
theorem mw_218 : Cond.methodLink RX8 106 yX8_moves ∈ ws0 := ws0_3 (List.mem_of_getElem? (i := 224) rfl) rfl
theorem mw_219 : Cond.instanceMethod yX8_moves ∈ ws0 := ws0_3 (List.mem_of_getElem? (i := 226) rfl) rfl
theorem mw_220 : Cond.selects RX8 yX8_moves yX8_moves ∈ ws0 := ws0_p (n := 15) (ws0_q2 (List.mem_of_getElem? (i := 0) rfl))
theorem mw_221 : Cond.code yX8_moves cX8_moves 4 (some .int) ∈ ws0 := ws0_3 (List.mem_of_getElem? (i := 227) rfl) rfl
theorem mw_222 : Cond.methodLink RX8 84 yX8_isDrone ∈ ws0 := ws0_3 (List.mem_of_getElem? (i := 228) rfl) rfl
theorem mw_223 : Cond.instanceMethod yX8_isDrone ∈ ws0 := ws0_3 (List.mem_of_getElem? (i := 230) rfl) rfl
theorem mw_224 : Cond.selects RX8 yX8_isDrone yX8_isDrone ∈ ws0 := ws0_p (n := 15) (ws0_q2 (List.mem_of_getElem? (i := 1) rfl))
theorem mw_225 : Cond.code yX8_isDrone cX8_isDrone 2 (some .boolean) ∈ ws0 := ws0_3 (List.mem_of_getElem? (i := 231) rfl) rfl
theorem mw_226 : Cond.methodLink RL 22 yX7_petition ∈ ws0 := ws0_2 (List.mem_of_getElem? (i := 106) rfl) rfl
theorem mw_227 : Cond.instanceMethod yX7_petition ∈ ws0 := ws0_2 (List.mem_of_getElem? (i := 107) rfl) rfl
theorem mw_228 : Cond.selects RX7 yX7_petition yX7_petition ∈ ws0 := ws0_2 (List.mem_of_getElem? (i := 108) rfl) rfl
theorem mw_229 : Cond.code yX7_petition cX7_petition 5 (some .int) ∈ ws0 := ws0_2 (List.mem_of_getElem? (i := 109) rfl) rfl
theorem mw_230 : Cond.methodLink RX7 54 yX5_addPetition ∈ ws0 := ws0_2 (List.mem_of_getElem? (i := 110) rfl) rfl
theorem mw_231 : Cond.instanceMethod yX5_addPetition ∈ ws0 := ws0_2 (List.mem_of_getElem? (i := 111) rfl) rfl
theorem mw_232 : Cond.selects RX5 yX5_addPetition yX5_addPetition ∈ ws0 := ws0_2 (List.mem_of_getElem? (i := 112) rfl) rfl
theorem mw_233 : Cond.code yX5_addPetition cX5_addPetition 6 (some .int) ∈ ws0 := ws0_2 (List.mem_of_getElem? (i := 113) rfl) rfl
theorem mw_234 : Cond.fieldLink RX5 99 "HiveBylaws$Petitions" "size" "I" ∈ ws0 := ws0_1 (List.mem_of_getElem? (i := 92) rfl) rfl
theorem mw_235 : Cond.fieldLink RX5 100 "HiveBylaws$Swarm" "made" "[I" ∈ ws0 := ws0_1 (List.mem_of_getElem? (i := 41) rfl) rfl
theorem mw_236 : Cond.fieldLink RX5 103 "HiveBylaws$Swarm" "weight" "[I" ∈ ws0 := ws0_1 (List.mem_of_getElem? (i := 38) rfl) rfl
theorem mw_237 : Cond.static yX7_isPlace ∈ ws0 := ws0_2 (List.mem_of_getElem? (i := 115) rfl) rfl
theorem mw_238 : Cond.code yX7_isPlace cX7_isPlace 1 (some .boolean) ∈ ws0 := ws0_2 (List.mem_of_getElem? (i := 116) rfl) rfl
theorem mw_239 : Cond.static yX7_isDoing ∈ ws0 := ws0_2 (List.mem_of_getElem? (i := 118) rfl) rfl
theorem mw_240 : Cond.code yX7_isDoing cX7_isDoing 1 (some .boolean) ∈ ws0 := ws0_2 (List.mem_of_getElem? (i := 119) rfl) rfl
theorem mw_241 : Cond.methodLink RX5 95 yX3_madeBy ∈ ws0 := ws0_2 (List.mem_of_getElem? (i := 120) rfl) rfl
theorem mw_242 : Cond.instanceMethod yX3_madeBy ∈ ws0 := ws0_2 (List.mem_of_getElem? (i := 121) rfl) rfl
theorem mw_243 : Cond.selects RX3 yX3_madeBy yX3_madeBy ∈ ws0 := ws0_2 (List.mem_of_getElem? (i := 122) rfl) rfl
theorem mw_244 : Cond.code yX3_madeBy cX3_madeBy 3 (some .int) ∈ ws0 := ws0_2 (List.mem_of_getElem? (i := 123) rfl) rfl
theorem mw_245 : Cond.methodLink RX5 106 yX3_add ∈ ws0 := ws0_2 (List.mem_of_getElem? (i := 124) rfl) rfl
theorem mw_246 : Cond.instanceMethod yX3_add ∈ ws0 := ws0_2 (List.mem_of_getElem? (i := 125) rfl) rfl
theorem mw_247 : Cond.selects RX3 yX3_add yX3_add ∈ ws0 := ws0_2 (List.mem_of_getElem? (i := 126) rfl) rfl
theorem mw_248 : Cond.code yX3_add cX3_add 6 (some .int) ∈ ws0 := ws0_2 (List.mem_of_getElem? (i := 127) rfl) rfl
theorem mw_249 : Cond.methodLink RL 26 yX8_petition ∈ ws0 := ws0_3 (List.mem_of_getElem? (i := 232) rfl) rfl
theorem mw_250 : Cond.instanceMethod yX8_petition ∈ ws0 := ws0_3 (List.mem_of_getElem? (i := 233) rfl) rfl
theorem mw_251 : Cond.selects RX8 yX8_petition yX8_petition ∈ ws0 := ws0_3 (List.mem_of_getElem? (i := 234) rfl) rfl
theorem mw_252 : Cond.code yX8_petition cX8_petition 5 (some .int) ∈ ws0 := ws0_3 (List.mem_of_getElem? (i := 235) rfl) rfl
theorem mw_253 : Cond.methodLink RX8 109 yX8_petitions ∈ ws0 := ws0_3 (List.mem_of_getElem? (i := 236) rfl) rfl
theorem mw_254 : Cond.instanceMethod yX8_petitions ∈ ws0 := ws0_3 (List.mem_of_getElem? (i := 238) rfl) rfl
theorem mw_255 : Cond.selects RX8 yX8_petitions yX8_petitions ∈ ws0 := ws0_p (n := 15) (ws0_q2 (List.mem_of_getElem? (i := 2) rfl))
theorem mw_256 : Cond.code yX8_petitions cX8_petitions 7 (some .int) ∈ ws0 := ws0_3 (List.mem_of_getElem? (i := 239) rfl) rfl
theorem mw_257 : Cond.methodLink RX8 87 yX8_isDoing ∈ ws0 := ws0_4 (List.mem_of_getElem? (i := 0) rfl) rfl
theorem mw_258 : Cond.static yX8_isDoing ∈ ws0 := ws0_4 (List.mem_of_getElem? (i := 1) rfl) rfl
theorem mw_259 : Cond.code yX8_isDoing cX8_isDoing 1 (some .boolean) ∈ ws0 := ws0_4 (List.mem_of_getElem? (i := 2) rfl) rfl
theorem mw_260 : Cond.methodLink RX8 36 yX8_petitionAt ∈ ws0 := ws0_4 (List.mem_of_getElem? (i := 3) rfl) rfl
theorem mw_261 : Cond.static yX8_petitionAt ∈ ws0 := ws0_4 (List.mem_of_getElem? (i := 4) rfl) rfl
theorem mw_262 : Cond.code yX8_petitionAt cX8_petitionAt 2 (some .int) ∈ ws0 := ws0_4 (List.mem_of_getElem? (i := 5) rfl) rfl
theorem mw_263 : Cond.methodLink RL 27 yX7_second ∈ ws0 := ws0_2 (List.mem_of_getElem? (i := 128) rfl) rfl
theorem mw_264 : Cond.instanceMethod yX7_second ∈ ws0 := ws0_2 (List.mem_of_getElem? (i := 129) rfl) rfl
theorem mw_265 : Cond.selects RX7 yX7_second yX7_second ∈ ws0 := ws0_2 (List.mem_of_getElem? (i := 130) rfl) rfl
theorem mw_266 : Cond.code yX7_second cX7_second 3 (some .int) ∈ ws0 := ws0_2 (List.mem_of_getElem? (i := 131) rfl) rfl
theorem mw_267 : Cond.methodLink RX7 58 yX5_addSeconder ∈ ws0 := ws0_2 (List.mem_of_getElem? (i := 132) rfl) rfl
theorem mw_268 : Cond.instanceMethod yX5_addSeconder ∈ ws0 := ws0_2 (List.mem_of_getElem? (i := 133) rfl) rfl
theorem mw_269 : Cond.selects RX5 yX5_addSeconder yX5_addSeconder ∈ ws0 := ws0_2 (List.mem_of_getElem? (i := 134) rfl) rfl
theorem mw_270 : Cond.code yX5_addSeconder cX5_addSeconder 4 (some .int) ∈ ws0 := ws0_2 (List.mem_of_getElem? (i := 135) rfl) rfl
theorem mw_271 : Cond.fieldLink RX5 112 "HiveBylaws$Petitions" "drone" "[I" ∈ ws0 := ws0_1 (List.mem_of_getElem? (i := 95) rfl) rfl
theorem mw_272 : Cond.fieldLink RX5 115 "HiveBylaws$Petitions" "seconders" "[I" ∈ ws0 := ws0_1 (List.mem_of_getElem? (i := 114) rfl) rfl
theorem mw_273 : Cond.fieldLink RX5 118 "HiveBylaws$Petitions" "support" "[I" ∈ ws0 := ws0_1 (List.mem_of_getElem? (i := 111) rfl) rfl
theorem mw_274 : Cond.methodLink RX5 109 yX3_has ∈ ws0 := ws0_2 (List.mem_of_getElem? (i := 136) rfl) rfl
theorem mw_275 : Cond.instanceMethod yX3_has ∈ ws0 := ws0_2 (List.mem_of_getElem? (i := 137) rfl) rfl
theorem mw_276 : Cond.selects RX3 yX3_has yX3_has ∈ ws0 := ws0_2 (List.mem_of_getElem? (i := 138) rfl) rfl
theorem mw_277 : Cond.code yX3_has cX3_has 2 (some .boolean) ∈ ws0 := ws0_2 (List.mem_of_getElem? (i := 139) rfl) rfl
theorem mw_278 : Cond.methodLink RL 30 yX8_second ∈ ws0 := ws0_4 (List.mem_of_getElem? (i := 6) rfl) rfl
theorem mw_279 : Cond.instanceMethod yX8_second ∈ ws0 := ws0_4 (List.mem_of_getElem? (i := 7) rfl) rfl
theorem mw_280 : Cond.selects RX8 yX8_second yX8_second ∈ ws0 := ws0_4 (List.mem_of_getElem? (i := 8) rfl) rfl
theorem mw_281 : Cond.code yX8_second cX8_second 3 (some .int) ∈ ws0 := ws0_4 (List.mem_of_getElem? (i := 9) rfl) rfl
theorem mw_282 : Cond.methodLink RX8 112 yX8_seconds ∈ ws0 := ws0_4 (List.mem_of_getElem? (i := 10) rfl) rfl
theorem mw_283 : Cond.instanceMethod yX8_seconds ∈ ws0 := ws0_4 (List.mem_of_getElem? (i := 12) rfl) rfl
theorem mw_284 : Cond.selects RX8 yX8_seconds yX8_seconds ∈ ws0 := ws0_p (n := 15) (ws0_q2 (List.mem_of_getElem? (i := 3) rfl))
theorem mw_285 : Cond.code yX8_seconds cX8_seconds 4 (some .int) ∈ ws0 := ws0_4 (List.mem_of_getElem? (i := 13) rfl) rfl
theorem mw_286 : Cond.methodLink RX8 90 yX8_isPetition ∈ ws0 := ws0_4 (List.mem_of_getElem? (i := 14) rfl) rfl
theorem mw_287 : Cond.instanceMethod yX8_isPetition ∈ ws0 := ws0_4 (List.mem_of_getElem? (i := 16) rfl) rfl
theorem mw_288 : Cond.selects RX8 yX8_isPetition yX8_isPetition ∈ ws0 := ws0_p (n := 15) (ws0_q2 (List.mem_of_getElem? (i := 4) rfl))
theorem mw_289 : Cond.code yX8_isPetition cX8_isPetition 2 (some .boolean) ∈ ws0 := ws0_4 (List.mem_of_getElem? (i := 17) rfl) rfl
theorem mw_290 : Cond.methodLink RX8 58 yX8_support ∈ ws0 := ws0_4 (List.mem_of_getElem? (i := 18) rfl) rfl
theorem mw_291 : Cond.instanceMethod yX8_support ∈ ws0 := ws0_4 (List.mem_of_getElem? (i := 20) rfl) rfl
theorem mw_292 : Cond.selects RX8 yX8_support yX8_support ∈ ws0 := ws0_p (n := 15) (ws0_q2 (List.mem_of_getElem? (i := 5) rfl))
theorem mw_293 : Cond.code yX8_support cX8_support 6 (some .int) ∈ ws0 := ws0_4 (List.mem_of_getElem? (i := 21) rfl) rfl
theorem mw_294 : Cond.methodLink RL 31 yX7_pass ∈ ws0 := ws0_2 (List.mem_of_getElem? (i := 140) rfl) rfl
theorem mw_295 : Cond.instanceMethod yX7_pass ∈ ws0 := ws0_2 (List.mem_of_getElem? (i := 141) rfl) rfl
theorem mw_296 : Cond.selects RX7 yX7_pass yX7_pass ∈ ws0 := ws0_2 (List.mem_of_getElem? (i := 142) rfl) rfl
theorem mw_297 : Cond.code yX7_pass cX7_pass 2 (some .int) ∈ ws0 := ws0_2 (List.mem_of_getElem? (i := 143) rfl) rfl
theorem mw_298 : Cond.methodLink RX7 61 yX5_endDays ∈ ws0 := ws0_2 (List.mem_of_getElem? (i := 144) rfl) rfl
theorem mw_299 : Cond.instanceMethod yX5_endDays ∈ ws0 := ws0_2 (List.mem_of_getElem? (i := 145) rfl) rfl
theorem mw_300 : Cond.selects RX5 yX5_endDays yX5_endDays ∈ ws0 := ws0_2 (List.mem_of_getElem? (i := 146) rfl) rfl
theorem mw_301 : Cond.code yX5_endDays cX5_endDays 4 (some .int) ∈ ws0 := ws0_2 (List.mem_of_getElem? (i := 147) rfl) rfl
theorem mw_302 : Cond.methodLink RX5 122 yX5_endSeason ∈ ws0 := ws0_2 (List.mem_of_getElem? (i := 149) rfl) rfl
theorem mw_303 : Cond.instanceMethod yX5_endSeason ∈ ws0 := ws0_2 (List.mem_of_getElem? (i := 151) rfl) rfl
theorem mw_304 : Cond.selects RX5 yX5_endSeason yX5_endSeason ∈ ws0 := ws0_p (n := 10) (ws0_q1 (List.mem_of_getElem? (i := 1) rfl))
theorem mw_305 : Cond.code yX5_endSeason cX5_endSeason 4 (some .int) ∈ ws0 := ws0_2 (List.mem_of_getElem? (i := 152) rfl) rfl
theorem mw_306 : Cond.fieldLink RX5 129 "HiveBylaws$Refusals" "size" "I" ∈ ws0 := ws0_1 (List.mem_of_getElem? (i := 138) rfl) rfl
theorem mw_307 : Cond.fieldLink RX5 130 "HiveBylaws$Swarm" "passed" "[I" ∈ ws0 := ws0_1 (List.mem_of_getElem? (i := 44) rfl) rfl
theorem mw_308 : Cond.fieldLink RX5 133 "HiveBylaws$Swarm" "refused" "[I" ∈ ws0 := ws0_1 (List.mem_of_getElem? (i := 47) rfl) rfl
theorem mw_309 : Cond.methodLink RX5 126 yX5_hearPetitions ∈ ws0 := ws0_2 (List.mem_of_getElem? (i := 153) rfl) rfl
theorem mw_310 : Cond.instanceMethod yX5_hearPetitions ∈ ws0 := ws0_2 (List.mem_of_getElem? (i := 154) rfl) rfl
theorem mw_311 : Cond.selects RX5 yX5_hearPetitions yX5_hearPetitions ∈ ws0 := ws0_2 (List.mem_of_getElem? (i := 155) rfl) rfl
theorem mw_312 : Cond.code yX5_hearPetitions cX5_hearPetitions 5 (some .int) ∈ ws0 := ws0_2 (List.mem_of_getElem? (i := 156) rfl) rfl
theorem mw_313 : Cond.methodLink RX5 139 yX3_atRank ∈ ws0 := ws0_2 (List.mem_of_getElem? (i := 157) rfl) rfl
theorem mw_314 : Cond.instanceMethod yX3_atRank ∈ ws0 := ws0_2 (List.mem_of_getElem? (i := 158) rfl) rfl
theorem mw_315 : Cond.selects RX3 yX3_atRank yX3_atRank ∈ ws0 := ws0_2 (List.mem_of_getElem? (i := 159) rfl) rfl
theorem mw_316 : Cond.code yX3_atRank cX3_atRank 3 (some .int) ∈ ws0 := ws0_2 (List.mem_of_getElem? (i := 160) rfl) rfl
theorem mw_317 : Cond.methodLink RX3 40 yX3_rankOf ∈ ws0 := ws0_2 (List.mem_of_getElem? (i := 161) rfl) rfl
theorem mw_318 : Cond.instanceMethod yX3_rankOf ∈ ws0 := ws0_2 (List.mem_of_getElem? (i := 163) rfl) rfl
theorem mw_319 : Cond.selects RX3 yX3_rankOf yX3_rankOf ∈ ws0 := ws0_p (n := 7) (ws0_q1 (List.mem_of_getElem? (i := 2) rfl))
theorem mw_320 : Cond.code yX3_rankOf cX3_rankOf 6 (some .int) ∈ ws0 := ws0_2 (List.mem_of_getElem? (i := 164) rfl) rfl
theorem mw_321 : Cond.methodLink RX5 142 yX5_reasonToRefuse ∈ ws0 := ws0_2 (List.mem_of_getElem? (i := 165) rfl) rfl
theorem mw_322 : Cond.instanceMethod yX5_reasonToRefuse ∈ ws0 := ws0_2 (List.mem_of_getElem? (i := 166) rfl) rfl
theorem mw_323 : Cond.selects RX5 yX5_reasonToRefuse yX5_reasonToRefuse ∈ ws0 := ws0_2 (List.mem_of_getElem? (i := 167) rfl) rfl
theorem mw_324 : Cond.code yX5_reasonToRefuse cX5_reasonToRefuse 8 (some .int) ∈ ws0 := ws0_2 (List.mem_of_getElem? (i := 168) rfl) rfl
theorem mw_325 : Cond.fieldLink RX5 149 "HiveBylaws$Petitions" "place" "[I" ∈ ws0 := ws0_1 (List.mem_of_getElem? (i := 99) rfl) rfl
theorem mw_326 : Cond.fieldLink RX5 152 "HiveBylaws$Petitions" "doing" "[I" ∈ ws0 := ws0_1 (List.mem_of_getElem? (i := 103) rfl) rfl
theorem mw_327 : Cond.fieldLink RX5 155 "HiveBylaws$Petitions" "kind" "[I" ∈ ws0 := ws0_1 (List.mem_of_getElem? (i := 107) rfl) rfl
theorem mw_328 : Cond.methodLink RX5 158 yX4_greatestSupport ∈ ws0 := ws0_2 (List.mem_of_getElem? (i := 169) rfl) rfl
theorem mw_329 : Cond.instanceMethod yX4_greatestSupport ∈ ws0 := ws0_2 (List.mem_of_getElem? (i := 170) rfl) rfl
theorem mw_330 : Cond.selects RX4 yX4_greatestSupport yX4_greatestSupport ∈ ws0 := ws0_2 (List.mem_of_getElem? (i := 171) rfl) rfl
theorem mw_331 : Cond.code yX4_greatestSupport cX4_greatestSupport 7 (some .int) ∈ ws0 := ws0_2 (List.mem_of_getElem? (i := 172) rfl) rfl
theorem mw_332 : Cond.methodLink RX5 162 yX1_strengthOf ∈ ws0 := ws0_2 (List.mem_of_getElem? (i := 173) rfl) rfl
theorem mw_333 : Cond.instanceMethod yX1_strengthOf ∈ ws0 := ws0_2 (List.mem_of_getElem? (i := 174) rfl) rfl
theorem mw_334 : Cond.selects RX1 yX1_strengthOf yX1_strengthOf ∈ ws0 := ws0_2 (List.mem_of_getElem? (i := 175) rfl) rfl
theorem mw_335 : Cond.code yX1_strengthOf cX1_strengthOf 3 (some .int) ∈ ws0 := ws0_2 (List.mem_of_getElem? (i := 176) rfl) rfl
theorem mw_336 : Cond.methodLink RX5 165 yX6_weightAt ∈ ws0 := ws0_2 (List.mem_of_getElem? (i := 177) rfl) rfl
theorem mw_337 : Cond.instanceMethod yX6_weightAt ∈ ws0 := ws0_2 (List.mem_of_getElem? (i := 178) rfl) rfl
theorem mw_338 : Cond.selects RX6 yX6_weightAt yX6_weightAt ∈ ws0 := ws0_2 (List.mem_of_getElem? (i := 179) rfl) rfl
theorem mw_339 : Cond.code yX6_weightAt cX6_weightAt 4 (some .int) ∈ ws0 := ws0_2 (List.mem_of_getElem? (i := 180) rfl) rfl
theorem mw_340 : Cond.methodLink RX5 168 yX1_stanceOf ∈ ws0 := ws0_2 (List.mem_of_getElem? (i := 181) rfl) rfl
theorem mw_341 : Cond.instanceMethod yX1_stanceOf ∈ ws0 := ws0_2 (List.mem_of_getElem? (i := 182) rfl) rfl
theorem mw_342 : Cond.selects RX1 yX1_stanceOf yX1_stanceOf ∈ ws0 := ws0_2 (List.mem_of_getElem? (i := 183) rfl) rfl
theorem mw_343 : Cond.code yX1_stanceOf cX1_stanceOf 3 (some .int) ∈ ws0 := ws0_2 (List.mem_of_getElem? (i := 184) rfl) rfl
theorem mw_344 : Cond.methodLink RX5 145 yX5_grant ∈ ws0 := ws0_2 (List.mem_of_getElem? (i := 185) rfl) rfl
theorem mw_345 : Cond.instanceMethod yX5_grant ∈ ws0 := ws0_2 (List.mem_of_getElem? (i := 187) rfl) rfl
theorem mw_346 : Cond.selects RX5 yX5_grant yX5_grant ∈ ws0 := ws0_p (n := 10) (ws0_q1 (List.mem_of_getElem? (i := 3) rfl))
theorem mw_347 : Cond.code yX5_grant cX5_grant 3 none ∈ ws0 := ws0_2 (List.mem_of_getElem? (i := 188) rfl) rfl
theorem mw_348 : Cond.fieldLink RX5 171 "HiveBylaws$Laws" "strength" "[I" ∈ ws0 := ws0_1 (List.mem_of_getElem? (i := 73) rfl) rfl
theorem mw_349 : Cond.fieldLink RX5 174 "HiveBylaws$Laws" "stance" "[I" ∈ ws0 := ws0_1 (List.mem_of_getElem? (i := 70) rfl) rfl
theorem mw_350 : Cond.fieldLink RX5 177 "HiveBylaws$Laws" "season" "[I" ∈ ws0 := ws0_1 (List.mem_of_getElem? (i := 76) rfl) rfl
theorem mw_351 : Cond.methodLink RX5 136 yX4_add ∈ ws0 := ws0_2 (List.mem_of_getElem? (i := 189) rfl) rfl
theorem mw_352 : Cond.instanceMethod yX4_add ∈ ws0 := ws0_2 (List.mem_of_getElem? (i := 190) rfl) rfl
theorem mw_353 : Cond.selects RX4 yX4_add yX4_add ∈ ws0 := ws0_2 (List.mem_of_getElem? (i := 191) rfl) rfl
theorem mw_354 : Cond.code yX4_add cX4_add 3 none ∈ ws0 := ws0_2 (List.mem_of_getElem? (i := 192) rfl) rfl
theorem mw_355 : Cond.fieldLink RX4 34 "HiveBylaws$Petitions" "place" "[I" ∈ ws0 := ws0_1 (List.mem_of_getElem? (i := 98) rfl) rfl
theorem mw_356 : Cond.fieldLink RX4 37 "HiveBylaws$Petitions" "doing" "[I" ∈ ws0 := ws0_1 (List.mem_of_getElem? (i := 102) rfl) rfl
theorem mw_357 : Cond.fieldLink RX4 38 "HiveBylaws$Petitions" "kind" "[I" ∈ ws0 := ws0_1 (List.mem_of_getElem? (i := 106) rfl) rfl
theorem mw_358 : Cond.fieldLink RX4 39 "HiveBylaws$Petitions" "support" "[I" ∈ ws0 := ws0_1 (List.mem_of_getElem? (i := 110) rfl) rfl
theorem mw_359 : Cond.methodLink RL 35 yX8_pass ∈ ws0 := ws0_4 (List.mem_of_getElem? (i := 22) rfl) rfl
theorem mw_360 : Cond.instanceMethod yX8_pass ∈ ws0 := ws0_4 (List.mem_of_getElem? (i := 23) rfl) rfl
theorem mw_361 : Cond.selects RX8 yX8_pass yX8_pass ∈ ws0 := ws0_4 (List.mem_of_getElem? (i := 24) rfl) rfl
theorem mw_362 : Cond.code yX8_pass cX8_pass 2 (some .int) ∈ ws0 := ws0_4 (List.mem_of_getElem? (i := 25) rfl) rfl
theorem mw_363 : Cond.methodLink RX8 115 yX8_ends ∈ ws0 := ws0_4 (List.mem_of_getElem? (i := 26) rfl) rfl
theorem mw_364 : Cond.instanceMethod yX8_ends ∈ ws0 := ws0_4 (List.mem_of_getElem? (i := 28) rfl) rfl
theorem mw_365 : Cond.selects RX8 yX8_ends yX8_ends ∈ ws0 := ws0_p (n := 15) (ws0_q2 (List.mem_of_getElem? (i := 6) rfl))
theorem mw_366 : Cond.code yX8_ends cX8_ends 4 (some .int) ∈ ws0 := ws0_4 (List.mem_of_getElem? (i := 29) rfl) rfl
theorem mw_367 : Cond.methodLink RX8 94 yX8_day ∈ ws0 := ws0_4 (List.mem_of_getElem? (i := 31) rfl) rfl
theorem mw_368 : Cond.instanceMethod yX8_day ∈ ws0 := ws0_4 (List.mem_of_getElem? (i := 33) rfl) rfl
theorem mw_369 : Cond.selects RX8 yX8_day yX8_day ∈ ws0 := ws0_p (n := 15) (ws0_q2 (List.mem_of_getElem? (i := 7) rfl))
theorem mw_370 : Cond.code yX8_day cX8_day 4 (some .int) ∈ ws0 := ws0_4 (List.mem_of_getElem? (i := 34) rfl) rfl
theorem mw_371 : Cond.methodLink RX8 72 yX8_hears ∈ ws0 := ws0_4 (List.mem_of_getElem? (i := 35) rfl) rfl
theorem mw_372 : Cond.instanceMethod yX8_hears ∈ ws0 := ws0_4 (List.mem_of_getElem? (i := 37) rfl) rfl
theorem mw_373 : Cond.selects RX8 yX8_hears yX8_hears ∈ ws0 := ws0_p (n := 15) (ws0_q2 (List.mem_of_getElem? (i := 8) rfl))
theorem mw_374 : Cond.code yX8_hears cX8_hears 9 (some .int) ∈ ws0 := ws0_4 (List.mem_of_getElem? (i := 38) rfl) rfl
theorem mw_375 : Cond.methodLink RX8 61 yX8_sorts ∈ ws0 := ws0_4 (List.mem_of_getElem? (i := 39) rfl) rfl
theorem mw_376 : Cond.instanceMethod yX8_sorts ∈ ws0 := ws0_4 (List.mem_of_getElem? (i := 41) rfl) rfl
theorem mw_377 : Cond.selects RX8 yX8_sorts yX8_sorts ∈ ws0 := ws0_p (n := 15) (ws0_q2 (List.mem_of_getElem? (i := 9) rfl))
theorem mw_378 : Cond.code yX8_sorts cX8_sorts 4 none ∈ ws0 := ws0_4 (List.mem_of_getElem? (i := 42) rfl) rfl
theorem mw_379 : Cond.methodLink RX8 65 yX8_refusal ∈ ws0 := ws0_4 (List.mem_of_getElem? (i := 43) rfl) rfl
theorem mw_380 : Cond.instanceMethod yX8_refusal ∈ ws0 := ws0_4 (List.mem_of_getElem? (i := 45) rfl) rfl
theorem mw_381 : Cond.selects RX8 yX8_refusal yX8_refusal ∈ ws0 := ws0_p (n := 15) (ws0_q2 (List.mem_of_getElem? (i := 10) rfl))
theorem mw_382 : Cond.code yX8_refusal cX8_refusal 11 (some .int) ∈ ws0 := ws0_4 (List.mem_of_getElem? (i := 46) rfl) rfl
theorem mw_383 : Cond.methodLink RX8 43 yX8_bylawAt ∈ ws0 := ws0_4 (List.mem_of_getElem? (i := 47) rfl) rfl
theorem mw_384 : Cond.static yX8_bylawAt ∈ ws0 := ws0_4 (List.mem_of_getElem? (i := 48) rfl) rfl
theorem mw_385 : Cond.code yX8_bylawAt cX8_bylawAt 3 (some .int) ∈ ws0 := ws0_4 (List.mem_of_getElem? (i := 49) rfl) rfl
theorem mw_386 : Cond.methodLink RX8 47 yX8_refusedWith ∈ ws0 := ws0_4 (List.mem_of_getElem? (i := 50) rfl) rfl
theorem mw_387 : Cond.instanceMethod yX8_refusedWith ∈ ws0 := ws0_4 (List.mem_of_getElem? (i := 52) rfl) rfl
theorem mw_388 : Cond.selects RX8 yX8_refusedWith yX8_refusedWith ∈ ws0 := ws0_p (n := 15) (ws0_q2 (List.mem_of_getElem? (i := 11) rfl))
theorem mw_389 : Cond.code yX8_refusedWith cX8_refusedWith 9 (some .int) ∈ ws0 := ws0_4 (List.mem_of_getElem? (i := 53) rfl) rfl
theorem mw_390 : Cond.methodLink RX8 51 yX8_weightAt ∈ ws0 := ws0_4 (List.mem_of_getElem? (i := 54) rfl) rfl
theorem mw_391 : Cond.instanceMethod yX8_weightAt ∈ ws0 := ws0_4 (List.mem_of_getElem? (i := 56) rfl) rfl
theorem mw_392 : Cond.selects RX8 yX8_weightAt yX8_weightAt ∈ ws0 := ws0_p (n := 15) (ws0_q2 (List.mem_of_getElem? (i := 12) rfl))
theorem mw_393 : Cond.code yX8_weightAt cX8_weightAt 6 (some .int) ∈ ws0 := ws0_4 (List.mem_of_getElem? (i := 57) rfl) rfl
theorem mw_394 : Cond.methodLink RX8 68 yX8_passes ∈ ws0 := ws0_4 (List.mem_of_getElem? (i := 58) rfl) rfl
theorem mw_395 : Cond.instanceMethod yX8_passes ∈ ws0 := ws0_4 (List.mem_of_getElem? (i := 60) rfl) rfl
theorem mw_396 : Cond.selects RX8 yX8_passes yX8_passes ∈ ws0 := ws0_p (n := 15) (ws0_q2 (List.mem_of_getElem? (i := 13) rfl))
theorem mw_397 : Cond.code yX8_passes cX8_passes 7 none ∈ ws0 := ws0_4 (List.mem_of_getElem? (i := 61) rfl) rfl
theorem mw_398 : Cond.methodLink RX8 54 yX8_flag ∈ ws0 := ws0_4 (List.mem_of_getElem? (i := 62) rfl) rfl
theorem mw_399 : Cond.static yX8_flag ∈ ws0 := ws0_4 (List.mem_of_getElem? (i := 63) rfl) rfl
theorem mw_400 : Cond.code yX8_flag cX8_flag 1 (some .int) ∈ ws0 := ws0_4 (List.mem_of_getElem? (i := 64) rfl) rfl
theorem mw_401 : Cond.methodLink RL 36 yX7_set ∈ ws0 := ws0_2 (List.mem_of_getElem? (i := 193) rfl) rfl
theorem mw_402 : Cond.instanceMethod yX7_set ∈ ws0 := ws0_2 (List.mem_of_getElem? (i := 194) rfl) rfl
theorem mw_403 : Cond.selects RX7 yX7_set yX7_set ∈ ws0 := ws0_2 (List.mem_of_getElem? (i := 195) rfl) rfl
theorem mw_404 : Cond.code yX7_set cX7_set 3 (some .int) ∈ ws0 := ws0_2 (List.mem_of_getElem? (i := 196) rfl) rfl
theorem mw_405 : Cond.methodLink RX7 64 yX5_changeSetting ∈ ws0 := ws0_2 (List.mem_of_getElem? (i := 197) rfl) rfl
theorem mw_406 : Cond.instanceMethod yX5_changeSetting ∈ ws0 := ws0_2 (List.mem_of_getElem? (i := 198) rfl) rfl
theorem mw_407 : Cond.selects RX5 yX5_changeSetting yX5_changeSetting ∈ ws0 := ws0_2 (List.mem_of_getElem? (i := 199) rfl) rfl
theorem mw_408 : Cond.code yX5_changeSetting cX5_changeSetting 5 (some .int) ∈ ws0 := ws0_2 (List.mem_of_getElem? (i := 200) rfl) rfl
theorem mw_409 : Cond.methodLink RL 39 yX8_set ∈ ws0 := ws0_4 (List.mem_of_getElem? (i := 65) rfl) rfl
theorem mw_410 : Cond.instanceMethod yX8_set ∈ ws0 := ws0_4 (List.mem_of_getElem? (i := 66) rfl) rfl
theorem mw_411 : Cond.selects RX8 yX8_set yX8_set ∈ ws0 := ws0_4 (List.mem_of_getElem? (i := 67) rfl) rfl
theorem mw_412 : Cond.code yX8_set cX8_set 3 (some .int) ∈ ws0 := ws0_4 (List.mem_of_getElem? (i := 68) rfl) rfl
theorem mw_413 : Cond.methodLink RX8 118 yX8_sets ∈ ws0 := ws0_4 (List.mem_of_getElem? (i := 69) rfl) rfl
theorem mw_414 : Cond.instanceMethod yX8_sets ∈ ws0 := ws0_4 (List.mem_of_getElem? (i := 71) rfl) rfl
theorem mw_415 : Cond.selects RX8 yX8_sets yX8_sets ∈ ws0 := ws0_p (n := 15) (ws0_q2 (List.mem_of_getElem? (i := 14) rfl))
theorem mw_416 : Cond.code yX8_sets cX8_sets 4 (some .int) ∈ ws0 := ws0_4 (List.mem_of_getElem? (i := 72) rfl) rfl
theorem mw_417 : Cond.methodLink RL 40 yX7_type ∈ ws0 := ws0_2 (List.mem_of_getElem? (i := 201) rfl) rfl
theorem mw_418 : Cond.instanceMethod yX7_type ∈ ws0 := ws0_2 (List.mem_of_getElem? (i := 202) rfl) rfl
theorem mw_419 : Cond.selects RX7 yX7_type yX7_type ∈ ws0 := ws0_2 (List.mem_of_getElem? (i := 203) rfl) rfl
theorem mw_420 : Cond.code yX7_type cX7_type 2 (some .int) ∈ ws0 := ws0_2 (List.mem_of_getElem? (i := 204) rfl) rfl
theorem mw_421 : Cond.methodLink RX7 67 yX2_append ∈ ws0 := ws0_2 (List.mem_of_getElem? (i := 205) rfl) rfl
theorem mw_422 : Cond.instanceMethod yX2_append ∈ ws0 := ws0_2 (List.mem_of_getElem? (i := 206) rfl) rfl
theorem mw_423 : Cond.selects RX2 yX2_append yX2_append ∈ ws0 := ws0_2 (List.mem_of_getElem? (i := 207) rfl) rfl
theorem mw_424 : Cond.code yX2_append cX2_append 2 (some .int) ∈ ws0 := ws0_2 (List.mem_of_getElem? (i := 208) rfl) rfl
theorem mw_425 : Cond.fieldLink RX2 31 "HiveBylaws$PetitionText" "length" "I" ∈ ws0 := ws0_1 (List.mem_of_getElem? (i := 221) rfl) rfl
theorem mw_426 : Cond.methodLink RL 44 yX8_type ∈ ws0 := ws0_4 (List.mem_of_getElem? (i := 73) rfl) rfl
theorem mw_427 : Cond.instanceMethod yX8_type ∈ ws0 := ws0_4 (List.mem_of_getElem? (i := 74) rfl) rfl
theorem mw_428 : Cond.selects RX8 yX8_type yX8_type ∈ ws0 := ws0_4 (List.mem_of_getElem? (i := 75) rfl) rfl
theorem mw_429 : Cond.code yX8_type cX8_type 2 (some .int) ∈ ws0 := ws0_4 (List.mem_of_getElem? (i := 76) rfl) rfl
theorem mw_430 : Cond.fieldLink RX8 121 "HiveBylawsModel" "typed" "I" ∈ ws0 := ws0_3 (List.mem_of_getElem? (i := 149) rfl) rfl
theorem mw_431 : Cond.methodLink RL 45 yX7_clearText ∈ ws0 := ws0_2 (List.mem_of_getElem? (i := 209) rfl) rfl
theorem mw_432 : Cond.instanceMethod yX7_clearText ∈ ws0 := ws0_2 (List.mem_of_getElem? (i := 210) rfl) rfl
theorem mw_433 : Cond.selects RX7 yX7_clearText yX7_clearText ∈ ws0 := ws0_2 (List.mem_of_getElem? (i := 211) rfl) rfl
theorem mw_434 : Cond.code yX7_clearText cX7_clearText 1 (some .int) ∈ ws0 := ws0_2 (List.mem_of_getElem? (i := 212) rfl) rfl
theorem mw_435 : Cond.methodLink RX7 71 yX2_empty ∈ ws0 := ws0_2 (List.mem_of_getElem? (i := 213) rfl) rfl
theorem mw_436 : Cond.instanceMethod yX2_empty ∈ ws0 := ws0_2 (List.mem_of_getElem? (i := 214) rfl) rfl
theorem mw_437 : Cond.selects RX2 yX2_empty yX2_empty ∈ ws0 := ws0_2 (List.mem_of_getElem? (i := 215) rfl) rfl
theorem mw_438 : Cond.code yX2_empty cX2_empty 2 (some .int) ∈ ws0 := ws0_2 (List.mem_of_getElem? (i := 216) rfl) rfl
theorem mw_439 : Cond.methodLink RL 49 yX8_clearText ∈ ws0 := ws0_4 (List.mem_of_getElem? (i := 77) rfl) rfl
theorem mw_440 : Cond.instanceMethod yX8_clearText ∈ ws0 := ws0_4 (List.mem_of_getElem? (i := 78) rfl) rfl
theorem mw_441 : Cond.selects RX8 yX8_clearText yX8_clearText ∈ ws0 := ws0_4 (List.mem_of_getElem? (i := 79) rfl) rfl
theorem mw_442 : Cond.code yX8_clearText cX8_clearText 2 (some .int) ∈ ws0 := ws0_4 (List.mem_of_getElem? (i := 80) rfl) rfl
theorem mw_443 : Cond.methodLink RL 50 yX7_perform ∈ ws0 := ws0_2 (List.mem_of_getElem? (i := 217) rfl) rfl
theorem mw_444 : Cond.instanceMethod yX7_perform ∈ ws0 := ws0_2 (List.mem_of_getElem? (i := 218) rfl) rfl
theorem mw_445 : Cond.selects RX7 yX7_perform yX7_perform ∈ ws0 := ws0_2 (List.mem_of_getElem? (i := 219) rfl) rfl
theorem mw_446 : Cond.code yX7_perform cX7_perform 4 (some .int) ∈ ws0 := ws0_2 (List.mem_of_getElem? (i := 220) rfl) rfl
theorem mw_447 : Cond.fieldLink RX7 78 "HiveBylaws$PetitionText" "things" "I" ∈ ws0 := ws0_1 (List.mem_of_getElem? (i := 225) rfl) rfl
theorem mw_448 : Cond.fieldLink RX7 85 "HiveBylaws" "stopNumber" "I" ∈ ws0 := ws0_2 (List.mem_of_getElem? (i := 23) rfl) rfl
theorem mw_449 : Cond.fieldLink RX7 88 "HiveBylaws" "stopError" "I" ∈ ws0 := ws0_2 (List.mem_of_getElem? (i := 24) rfl) rfl
theorem mw_450 : Cond.methodLink RX7 75 yX2_read ∈ ws0 := ws0_2 (List.mem_of_getElem? (i := 221) rfl) rfl
theorem mw_451 : Cond.instanceMethod yX2_read ∈ ws0 := ws0_2 (List.mem_of_getElem? (i := 222) rfl) rfl
theorem mw_452 : Cond.selects RX2 yX2_read yX2_read ∈ ws0 := ws0_2 (List.mem_of_getElem? (i := 223) rfl) rfl
theorem mw_453 : Cond.code yX2_read cX2_read 1 (some .int) ∈ ws0 := ws0_2 (List.mem_of_getElem? (i := 224) rfl) rfl
theorem mw_454 : Cond.fieldLink RX2 35 "HiveBylaws$PetitionText" "at" "I" ∈ ws0 := ws0_1 (List.mem_of_getElem? (i := 223) rfl) rfl
theorem mw_455 : Cond.fieldLink RX2 38 "HiveBylaws$PetitionText" "things" "I" ∈ ws0 := ws0_1 (List.mem_of_getElem? (i := 224) rfl) rfl
theorem mw_456 : Cond.methodLink RX2 41 yX2_readThing ∈ ws0 := ws0_2 (List.mem_of_getElem? (i := 225) rfl) rfl
theorem mw_457 : Cond.instanceMethod yX2_readThing ∈ ws0 := ws0_2 (List.mem_of_getElem? (i := 227) rfl) rfl
theorem mw_458 : Cond.selects RX2 yX2_readThing yX2_readThing ∈ ws0 := ws0_p (n := 9) (ws0_q1 (List.mem_of_getElem? (i := 4) rfl))
theorem mw_459 : Cond.code yX2_readThing cX2_readThing 2 (some .boolean) ∈ ws0 := ws0_2 (List.mem_of_getElem? (i := 228) rfl) rfl
theorem mw_460 : Cond.methodLink RX2 45 yX2_skip ∈ ws0 := ws0_2 (List.mem_of_getElem? (i := 229) rfl) rfl
theorem mw_461 : Cond.instanceMethod yX2_skip ∈ ws0 := ws0_2 (List.mem_of_getElem? (i := 231) rfl) rfl
theorem mw_462 : Cond.selects RX2 yX2_skip yX2_skip ∈ ws0 := ws0_p (n := 9) (ws0_q1 (List.mem_of_getElem? (i := 5) rfl))
theorem mw_463 : Cond.code yX2_skip cX2_skip 2 (some .boolean) ∈ ws0 := ws0_2 (List.mem_of_getElem? (i := 232) rfl) rfl
theorem mw_464 : Cond.methodLink RX2 49 yX2_readPetition ∈ ws0 := ws0_2 (List.mem_of_getElem? (i := 233) rfl) rfl
theorem mw_465 : Cond.instanceMethod yX2_readPetition ∈ ws0 := ws0_2 (List.mem_of_getElem? (i := 235) rfl) rfl
theorem mw_466 : Cond.selects RX2 yX2_readPetition yX2_readPetition ∈ ws0 := ws0_p (n := 9) (ws0_q1 (List.mem_of_getElem? (i := 6) rfl))
theorem mw_467 : Cond.code yX2_readPetition cX2_readPetition 2 (some .boolean) ∈ ws0 := ws0_2 (List.mem_of_getElem? (i := 236) rfl) rfl
theorem mw_468 : Cond.methodLink RX2 55 yX2_readNumber ∈ ws0 := ws0_2 (List.mem_of_getElem? (i := 237) rfl) rfl
theorem mw_469 : Cond.instanceMethod yX2_readNumber ∈ ws0 := ws0_2 (List.mem_of_getElem? (i := 239) rfl) rfl
theorem mw_470 : Cond.selects RX2 yX2_readNumber yX2_readNumber ∈ ws0 := ws0_p (n := 9) (ws0_q1 (List.mem_of_getElem? (i := 7) rfl))
theorem mw_471 : Cond.code yX2_readNumber cX2_readNumber 5 (some .int) ∈ ws0 := ws0_3 (List.mem_of_getElem? (i := 0) rfl) rfl
theorem mw_472 : Cond.methodLink RX2 63 yX2_digitHere ∈ ws0 := ws0_3 (List.mem_of_getElem? (i := 1) rfl) rfl
theorem mw_473 : Cond.instanceMethod yX2_digitHere ∈ ws0 := ws0_3 (List.mem_of_getElem? (i := 3) rfl) rfl
theorem mw_474 : Cond.selects RX2 yX2_digitHere yX2_digitHere ∈ ws0 := ws0_p (n := 9) (ws0_q1 (List.mem_of_getElem? (i := 8) rfl))
theorem mw_475 : Cond.code yX2_digitHere cX2_digitHere 1 (some .int) ∈ ws0 := ws0_3 (List.mem_of_getElem? (i := 4) rfl) rfl
theorem mw_476 : Cond.methodLink RX2 59 yX2_readKind ∈ ws0 := ws0_3 (List.mem_of_getElem? (i := 5) rfl) rfl
theorem mw_477 : Cond.instanceMethod yX2_readKind ∈ ws0 := ws0_3 (List.mem_of_getElem? (i := 7) rfl) rfl
theorem mw_478 : Cond.selects RX2 yX2_readKind yX2_readKind ∈ ws0 := ws0_p (n := 9) (ws0_q1 (List.mem_of_getElem? (i := 9) rfl))
theorem mw_479 : Cond.code yX2_readKind cX2_readKind 1 (some .int) ∈ ws0 := ws0_3 (List.mem_of_getElem? (i := 8) rfl) rfl
theorem mw_480 : Cond.methodLink RX2 52 yX2_readSeconding ∈ ws0 := ws0_3 (List.mem_of_getElem? (i := 9) rfl) rfl
theorem mw_481 : Cond.instanceMethod yX2_readSeconding ∈ ws0 := ws0_3 (List.mem_of_getElem? (i := 11) rfl) rfl
theorem mw_482 : Cond.selects RX2 yX2_readSeconding yX2_readSeconding ∈ ws0 := ws0_p (n := 9) (ws0_q1 (List.mem_of_getElem? (i := 10) rfl))
theorem mw_483 : Cond.code yX2_readSeconding cX2_readSeconding 2 (some .boolean) ∈ ws0 := ws0_3 (List.mem_of_getElem? (i := 12) rfl) rfl
theorem mw_484 : Cond.methodLink RX7 82 yX7_doThing ∈ ws0 := ws0_3 (List.mem_of_getElem? (i := 13) rfl) rfl
theorem mw_485 : Cond.instanceMethod yX7_doThing ∈ ws0 := ws0_3 (List.mem_of_getElem? (i := 15) rfl) rfl
theorem mw_486 : Cond.selects RX7 yX7_doThing yX7_doThing ∈ ws0 := ws0_p (n := 9) (ws0_q1 (List.mem_of_getElem? (i := 11) rfl))
theorem mw_487 : Cond.code yX7_doThing cX7_doThing 2 (some .int) ∈ ws0 := ws0_3 (List.mem_of_getElem? (i := 16) rfl) rfl
theorem mw_488 : Cond.fieldLink RX7 253 "HiveBylaws$PetitionText" "act" "[I" ∈ ws0 := ws0_1 (List.mem_of_getElem? (i := 227) rfl) rfl
theorem mw_489 : Cond.fieldLink RX7 256 "HiveBylaws$PetitionText" "drone" "[I" ∈ ws0 := ws0_1 (List.mem_of_getElem? (i := 229) rfl) rfl
theorem mw_490 : Cond.fieldLink RX7 257 "HiveBylaws$PetitionText" "number" "[I" ∈ ws0 := ws0_1 (List.mem_of_getElem? (i := 231) rfl) rfl
theorem mw_491 : Cond.fieldLink RX7 260 "HiveBylaws$PetitionText" "doing" "[I" ∈ ws0 := ws0_1 (List.mem_of_getElem? (i := 233) rfl) rfl
theorem mw_492 : Cond.fieldLink RX7 261 "HiveBylaws$PetitionText" "kind" "[I" ∈ ws0 := ws0_1 (List.mem_of_getElem? (i := 235) rfl) rfl
theorem mw_493 : Cond.methodLink RL 53 yX8_perform ∈ ws0 := ws0_4 (List.mem_of_getElem? (i := 81) rfl) rfl
theorem mw_494 : Cond.instanceMethod yX8_perform ∈ ws0 := ws0_4 (List.mem_of_getElem? (i := 82) rfl) rfl
theorem mw_495 : Cond.selects RX8 yX8_perform yX8_perform ∈ ws0 := ws0_4 (List.mem_of_getElem? (i := 83) rfl) rfl
theorem mw_496 : Cond.code yX8_perform cX8_perform 6 (some .int) ∈ ws0 := ws0_4 (List.mem_of_getElem? (i := 84) rfl) rfl
theorem mw_497 : Cond.fieldLink RX8 124 "HiveBylawsModel" "spot" "I" ∈ ws0 := ws0_3 (List.mem_of_getElem? (i := 154) rfl) rfl
theorem mw_498 : Cond.methodLink RX8 159 yX8_fault ∈ ws0 := ws0_4 (List.mem_of_getElem? (i := 85) rfl) rfl
theorem mw_499 : Cond.instanceMethod yX8_fault ∈ ws0 := ws0_4 (List.mem_of_getElem? (i := 87) rfl) rfl
theorem mw_500 : Cond.selects RX8 yX8_fault yX8_fault ∈ ws0 := ws0_p (n := 15) (ws0_q2 (List.mem_of_getElem? (i := 15) rfl))
theorem mw_501 : Cond.code yX8_fault cX8_fault 2 (some .int) ∈ ws0 := ws0_4 (List.mem_of_getElem? (i := 88) rfl) rfl
theorem mw_502 : Cond.methodLink RX8 156 yX8_readsThing ∈ ws0 := ws0_4 (List.mem_of_getElem? (i := 89) rfl) rfl
theorem mw_503 : Cond.instanceMethod yX8_readsThing ∈ ws0 := ws0_4 (List.mem_of_getElem? (i := 91) rfl) rfl
theorem mw_504 : Cond.selects RX8 yX8_readsThing yX8_readsThing ∈ ws0 := ws0_p (n := 15) (ws0_q3 (List.mem_of_getElem? (i := 0) rfl))
theorem mw_505 : Cond.code yX8_readsThing cX8_readsThing 1 (some .boolean) ∈ ws0 := ws0_4 (List.mem_of_getElem? (i := 92) rfl) rfl
theorem mw_506 : Cond.fieldLink RX8 149 "HiveBylawsModel" "letter" "I" ∈ ws0 := ws0_3 (List.mem_of_getElem? (i := 155) rfl) rfl
theorem mw_507 : Cond.fieldLink RX8 134 "HiveBylawsModel" "one" "I" ∈ ws0 := ws0_3 (List.mem_of_getElem? (i := 156) rfl) rfl
theorem mw_508 : Cond.fieldLink RX8 140 "HiveBylawsModel" "two" "I" ∈ ws0 := ws0_3 (List.mem_of_getElem? (i := 157) rfl) rfl
theorem mw_509 : Cond.methodLink RX8 152 yX8_readsPetition ∈ ws0 := ws0_4 (List.mem_of_getElem? (i := 93) rfl) rfl
theorem mw_510 : Cond.instanceMethod yX8_readsPetition ∈ ws0 := ws0_4 (List.mem_of_getElem? (i := 95) rfl) rfl
theorem mw_511 : Cond.selects RX8 yX8_readsPetition yX8_readsPetition ∈ ws0 := ws0_p (n := 15) (ws0_q3 (List.mem_of_getElem? (i := 1) rfl))
theorem mw_512 : Cond.code yX8_readsPetition cX8_readsPetition 1 (some .boolean) ∈ ws0 := ws0_4 (List.mem_of_getElem? (i := 96) rfl) rfl
theorem mw_513 : Cond.fieldLink RX8 143 "HiveBylawsModel" "three" "I" ∈ ws0 := ws0_3 (List.mem_of_getElem? (i := 158) rfl) rfl
theorem mw_514 : Cond.fieldLink RX8 146 "HiveBylawsModel" "four" "I" ∈ ws0 := ws0_3 (List.mem_of_getElem? (i := 159) rfl) rfl
theorem mw_515 : Cond.methodLink RX8 131 yX8_number ∈ ws0 := ws0_4 (List.mem_of_getElem? (i := 97) rfl) rfl
theorem mw_516 : Cond.instanceMethod yX8_number ∈ ws0 := ws0_4 (List.mem_of_getElem? (i := 99) rfl) rfl
theorem mw_517 : Cond.selects RX8 yX8_number yX8_number ∈ ws0 := ws0_p (n := 15) (ws0_q3 (List.mem_of_getElem? (i := 2) rfl))
theorem mw_518 : Cond.code yX8_number cX8_number 5 (some .int) ∈ ws0 := ws0_4 (List.mem_of_getElem? (i := 100) rfl) rfl
theorem mw_519 : Cond.methodLink RX8 127 yX8_isHere ∈ ws0 := ws0_4 (List.mem_of_getElem? (i := 101) rfl) rfl
theorem mw_520 : Cond.instanceMethod yX8_isHere ∈ ws0 := ws0_4 (List.mem_of_getElem? (i := 103) rfl) rfl
theorem mw_521 : Cond.selects RX8 yX8_isHere yX8_isHere ∈ ws0 := ws0_p (n := 15) (ws0_q3 (List.mem_of_getElem? (i := 3) rfl))
theorem mw_522 : Cond.code yX8_isHere cX8_isHere 3 (some .boolean) ∈ ws0 := ws0_4 (List.mem_of_getElem? (i := 104) rfl) rfl
theorem mw_523 : Cond.methodLink RX8 137 yX8_takes ∈ ws0 := ws0_4 (List.mem_of_getElem? (i := 105) rfl) rfl
theorem mw_524 : Cond.instanceMethod yX8_takes ∈ ws0 := ws0_4 (List.mem_of_getElem? (i := 107) rfl) rfl
theorem mw_525 : Cond.selects RX8 yX8_takes yX8_takes ∈ ws0 := ws0_p (n := 15) (ws0_q3 (List.mem_of_getElem? (i := 4) rfl))
theorem mw_526 : Cond.code yX8_takes cX8_takes 3 (some .boolean) ∈ ws0 := ws0_4 (List.mem_of_getElem? (i := 108) rfl) rfl
theorem mw_527 : Cond.methodLink RX8 163 yX8_does ∈ ws0 := ws0_4 (List.mem_of_getElem? (i := 109) rfl) rfl
theorem mw_528 : Cond.instanceMethod yX8_does ∈ ws0 := ws0_4 (List.mem_of_getElem? (i := 111) rfl) rfl
theorem mw_529 : Cond.selects RX8 yX8_does yX8_does ∈ ws0 := ws0_p (n := 15) (ws0_q3 (List.mem_of_getElem? (i := 5) rfl))
theorem mw_530 : Cond.code yX8_does cX8_does 1 (some .int) ∈ ws0 := ws0_4 (List.mem_of_getElem? (i := 112) rfl) rfl
theorem mw_531 : Cond.methodLink RL 54 yX7_stopped ∈ ws0 := ws0_3 (List.mem_of_getElem? (i := 17) rfl) rfl
theorem mw_532 : Cond.instanceMethod yX7_stopped ∈ ws0 := ws0_3 (List.mem_of_getElem? (i := 18) rfl) rfl
theorem mw_533 : Cond.selects RX7 yX7_stopped yX7_stopped ∈ ws0 := ws0_3 (List.mem_of_getElem? (i := 19) rfl) rfl
theorem mw_534 : Cond.code yX7_stopped cX7_stopped 2 (some .int) ∈ ws0 := ws0_3 (List.mem_of_getElem? (i := 20) rfl) rfl
theorem mw_535 : Cond.methodLink RL 57 yX8_stopped ∈ ws0 := ws0_4 (List.mem_of_getElem? (i := 113) rfl) rfl
theorem mw_536 : Cond.instanceMethod yX8_stopped ∈ ws0 := ws0_4 (List.mem_of_getElem? (i := 114) rfl) rfl
theorem mw_537 : Cond.selects RX8 yX8_stopped yX8_stopped ∈ ws0 := ws0_4 (List.mem_of_getElem? (i := 115) rfl) rfl
theorem mw_538 : Cond.code yX8_stopped cX8_stopped 2 (some .int) ∈ ws0 := ws0_4 (List.mem_of_getElem? (i := 116) rfl) rfl
theorem mw_539 : Cond.methodLink RL 58 yX7_undo ∈ ws0 := ws0_3 (List.mem_of_getElem? (i := 21) rfl) rfl
theorem mw_540 : Cond.instanceMethod yX7_undo ∈ ws0 := ws0_3 (List.mem_of_getElem? (i := 22) rfl) rfl
theorem mw_541 : Cond.selects RX7 yX7_undo yX7_undo ∈ ws0 := ws0_3 (List.mem_of_getElem? (i := 23) rfl) rfl
theorem mw_542 : Cond.code yX7_undo cX7_undo 1 (some .int) ∈ ws0 := ws0_3 (List.mem_of_getElem? (i := 24) rfl) rfl
theorem mw_543 : Cond.methodLink RX7 91 yX0_takeBack ∈ ws0 := ws0_3 (List.mem_of_getElem? (i := 25) rfl) rfl
theorem mw_544 : Cond.instanceMethod yX0_takeBack ∈ ws0 := ws0_3 (List.mem_of_getElem? (i := 26) rfl) rfl
theorem mw_545 : Cond.selects RX0 yX0_takeBack yX0_takeBack ∈ ws0 := ws0_3 (List.mem_of_getElem? (i := 27) rfl) rfl
theorem mw_546 : Cond.code yX0_takeBack cX0_takeBack 2 (some .int) ∈ ws0 := ws0_3 (List.mem_of_getElem? (i := 28) rfl) rfl
theorem mw_547 : Cond.methodLink RL 61 yX8_undo ∈ ws0 := ws0_4 (List.mem_of_getElem? (i := 117) rfl) rfl
theorem mw_548 : Cond.instanceMethod yX8_undo ∈ ws0 := ws0_4 (List.mem_of_getElem? (i := 118) rfl) rfl
theorem mw_549 : Cond.selects RX8 yX8_undo yX8_undo ∈ ws0 := ws0_4 (List.mem_of_getElem? (i := 119) rfl) rfl
theorem mw_550 : Cond.code yX8_undo cX8_undo 1 (some .int) ∈ ws0 := ws0_4 (List.mem_of_getElem? (i := 120) rfl) rfl
theorem mw_551 : Cond.methodLink RL 62 yX7_keep ∈ ws0 := ws0_3 (List.mem_of_getElem? (i := 29) rfl) rfl
theorem mw_552 : Cond.instanceMethod yX7_keep ∈ ws0 := ws0_3 (List.mem_of_getElem? (i := 30) rfl) rfl
theorem mw_553 : Cond.selects RX7 yX7_keep yX7_keep ∈ ws0 := ws0_3 (List.mem_of_getElem? (i := 31) rfl) rfl
theorem mw_554 : Cond.code yX7_keep cX7_keep 1 (some .int) ∈ ws0 := ws0_3 (List.mem_of_getElem? (i := 32) rfl) rfl
theorem mw_555 : Cond.fieldLink RX7 95 "HiveBylaws" "hasSnapshot" "Z" ∈ ws0 := ws0_2 (List.mem_of_getElem? (i := 20) rfl) rfl
theorem mw_556 : Cond.fieldLink RX7 99 "HiveBylaws$State" "laws" "LHiveBylaws$Laws;" ∈ ws0 := ws0_1 (List.mem_of_getElem? (i := 157) rfl) rfl
theorem mw_557 : Cond.methodLink RX7 103 yX1_size ∈ ws0 := ws0_3 (List.mem_of_getElem? (i := 33) rfl) rfl
theorem mw_558 : Cond.instanceMethod yX1_size ∈ ws0 := ws0_3 (List.mem_of_getElem? (i := 34) rfl) rfl
theorem mw_559 : Cond.selects RX1 yX1_size yX1_size ∈ ws0 := ws0_3 (List.mem_of_getElem? (i := 35) rfl) rfl
theorem mw_560 : Cond.code yX1_size cX1_size 1 (some .int) ∈ ws0 := ws0_3 (List.mem_of_getElem? (i := 36) rfl) rfl
theorem mw_561 : Cond.methodLink RX1 27 yX1_rankOf ∈ ws0 := ws0_3 (List.mem_of_getElem? (i := 37) rfl) rfl
theorem mw_562 : Cond.instanceMethod yX1_rankOf ∈ ws0 := ws0_3 (List.mem_of_getElem? (i := 38) rfl) rfl
theorem mw_563 : Cond.selects RX1 yX1_rankOf yX1_rankOf ∈ ws0 := ws0_3 (List.mem_of_getElem? (i := 39) rfl) rfl
theorem mw_564 : Cond.code yX1_rankOf cX1_rankOf 4 (some .int) ∈ ws0 := ws0_3 (List.mem_of_getElem? (i := 40) rfl) rfl
theorem mw_565 : Cond.methodLink RL 65 yX8_keep ∈ ws0 := ws0_4 (List.mem_of_getElem? (i := 121) rfl) rfl
theorem mw_566 : Cond.instanceMethod yX8_keep ∈ ws0 := ws0_4 (List.mem_of_getElem? (i := 122) rfl) rfl
theorem mw_567 : Cond.selects RX8 yX8_keep yX8_keep ∈ ws0 := ws0_4 (List.mem_of_getElem? (i := 123) rfl) rfl
theorem mw_568 : Cond.code yX8_keep cX8_keep 1 (some .int) ∈ ws0 := ws0_4 (List.mem_of_getElem? (i := 124) rfl) rfl
theorem mw_569 : Cond.fieldLink RX8 166 "HiveBylawsModel" "isKept" "Z" ∈ ws0 := ws0_3 (List.mem_of_getElem? (i := 147) rfl) rfl
theorem mw_570 : Cond.methodLink RX8 170 yX8_bylaws ∈ ws0 := ws0_4 (List.mem_of_getElem? (i := 125) rfl) rfl
theorem mw_571 : Cond.instanceMethod yX8_bylaws ∈ ws0 := ws0_4 (List.mem_of_getElem? (i := 127) rfl) rfl
theorem mw_572 : Cond.selects RX8 yX8_bylaws yX8_bylaws ∈ ws0 := ws0_p (n := 15) (ws0_q3 (List.mem_of_getElem? (i := 6) rfl))
theorem mw_573 : Cond.code yX8_bylaws cX8_bylaws 5 (some .int) ∈ ws0 := ws0_4 (List.mem_of_getElem? (i := 128) rfl) rfl
theorem mw_574 : Cond.methodLink RL 66 yX7_restore ∈ ws0 := ws0_3 (List.mem_of_getElem? (i := 41) rfl) rfl
theorem mw_575 : Cond.instanceMethod yX7_restore ∈ ws0 := ws0_3 (List.mem_of_getElem? (i := 42) rfl) rfl
theorem mw_576 : Cond.selects RX7 yX7_restore yX7_restore ∈ ws0 := ws0_3 (List.mem_of_getElem? (i := 43) rfl) rfl
theorem mw_577 : Cond.code yX7_restore cX7_restore 1 (some .int) ∈ ws0 := ws0_3 (List.mem_of_getElem? (i := 44) rfl) rfl
theorem mw_578 : Cond.methodLink RL 69 yX8_restore ∈ ws0 := ws0_4 (List.mem_of_getElem? (i := 129) rfl) rfl
theorem mw_579 : Cond.instanceMethod yX8_restore ∈ ws0 := ws0_4 (List.mem_of_getElem? (i := 130) rfl) rfl
theorem mw_580 : Cond.selects RX8 yX8_restore yX8_restore ∈ ws0 := ws0_4 (List.mem_of_getElem? (i := 131) rfl) rfl
theorem mw_581 : Cond.code yX8_restore cX8_restore 1 (some .int) ∈ ws0 := ws0_4 (List.mem_of_getElem? (i := 132) rfl) rfl
theorem mw_582 : Cond.methodLink RL 70 yX7_drone ∈ ws0 := ws0_3 (List.mem_of_getElem? (i := 45) rfl) rfl
theorem mw_583 : Cond.instanceMethod yX7_drone ∈ ws0 := ws0_3 (List.mem_of_getElem? (i := 46) rfl) rfl
theorem mw_584 : Cond.selects RX7 yX7_drone yX7_drone ∈ ws0 := ws0_3 (List.mem_of_getElem? (i := 47) rfl) rfl
theorem mw_585 : Cond.code yX7_drone cX7_drone 4 (some .int) ∈ ws0 := ws0_3 (List.mem_of_getElem? (i := 48) rfl) rfl
theorem mw_586 : Cond.fieldLink RX7 108 "HiveBylaws$State" "swarm" "LHiveBylaws$Swarm;" ∈ ws0 := ws0_1 (List.mem_of_getElem? (i := 155) rfl) rfl
theorem mw_587 : Cond.fieldLink RX7 118 "HiveBylaws$Swarm" "comb" "[I" ∈ ws0 := ws0_1 (List.mem_of_getElem? (i := 36) rfl) rfl
theorem mw_588 : Cond.fieldLink RX7 122 "HiveBylaws$Swarm" "weight" "[I" ∈ ws0 := ws0_1 (List.mem_of_getElem? (i := 39) rfl) rfl
theorem mw_589 : Cond.fieldLink RX7 125 "HiveBylaws$State" "petitions" "LHiveBylaws$Petitions;" ∈ ws0 := ws0_1 (List.mem_of_getElem? (i := 159) rfl) rfl
theorem mw_590 : Cond.fieldLink RX7 137 "HiveBylaws$Swarm" "made" "[I" ∈ ws0 := ws0_1 (List.mem_of_getElem? (i := 42) rfl) rfl
theorem mw_591 : Cond.fieldLink RX7 140 "HiveBylaws$Swarm" "passed" "[I" ∈ ws0 := ws0_1 (List.mem_of_getElem? (i := 45) rfl) rfl
theorem mw_592 : Cond.fieldLink RX7 143 "HiveBylaws$Swarm" "refused" "[I" ∈ ws0 := ws0_1 (List.mem_of_getElem? (i := 48) rfl) rfl
theorem mw_593 : Cond.methodLink RX7 112 yX6_knows ∈ ws0 := ws0_3 (List.mem_of_getElem? (i := 49) rfl) rfl
theorem mw_594 : Cond.methodLink RX7 129 yX3_madeBy ∈ ws0 := ws0_3 (List.mem_of_getElem? (i := 50) rfl) rfl
theorem mw_595 : Cond.methodLink RX7 134 yX3_secondedBy ∈ ws0 := ws0_3 (List.mem_of_getElem? (i := 51) rfl) rfl
theorem mw_596 : Cond.instanceMethod yX3_secondedBy ∈ ws0 := ws0_3 (List.mem_of_getElem? (i := 52) rfl) rfl
theorem mw_597 : Cond.selects RX3 yX3_secondedBy yX3_secondedBy ∈ ws0 := ws0_3 (List.mem_of_getElem? (i := 53) rfl) rfl
theorem mw_598 : Cond.code yX3_secondedBy cX3_secondedBy 4 (some .int) ∈ ws0 := ws0_3 (List.mem_of_getElem? (i := 54) rfl) rfl
theorem mw_599 : Cond.methodLink RL 73 yX8_drone ∈ ws0 := ws0_4 (List.mem_of_getElem? (i := 133) rfl) rfl
theorem mw_600 : Cond.instanceMethod yX8_drone ∈ ws0 := ws0_4 (List.mem_of_getElem? (i := 134) rfl) rfl
theorem mw_601 : Cond.selects RX8 yX8_drone yX8_drone ∈ ws0 := ws0_4 (List.mem_of_getElem? (i := 135) rfl) rfl
theorem mw_602 : Cond.code yX8_drone cX8_drone 3 (some .int) ∈ ws0 := ws0_4 (List.mem_of_getElem? (i := 136) rfl) rfl
theorem mw_603 : Cond.methodLink RX8 173 yX8_secondedBy ∈ ws0 := ws0_4 (List.mem_of_getElem? (i := 137) rfl) rfl
theorem mw_604 : Cond.instanceMethod yX8_secondedBy ∈ ws0 := ws0_4 (List.mem_of_getElem? (i := 139) rfl) rfl
theorem mw_605 : Cond.selects RX8 yX8_secondedBy yX8_secondedBy ∈ ws0 := ws0_p (n := 15) (ws0_q3 (List.mem_of_getElem? (i := 7) rfl))
theorem mw_606 : Cond.code yX8_secondedBy cX8_secondedBy 4 (some .int) ∈ ws0 := ws0_4 (List.mem_of_getElem? (i := 140) rfl) rfl
theorem mw_607 : Cond.methodLink RL 74 yX7_bylaw ∈ ws0 := ws0_3 (List.mem_of_getElem? (i := 55) rfl) rfl
theorem mw_608 : Cond.instanceMethod yX7_bylaw ∈ ws0 := ws0_3 (List.mem_of_getElem? (i := 56) rfl) rfl
theorem mw_609 : Cond.selects RX7 yX7_bylaw yX7_bylaw ∈ ws0 := ws0_3 (List.mem_of_getElem? (i := 57) rfl) rfl
theorem mw_610 : Cond.code yX7_bylaw cX7_bylaw 5 (some .int) ∈ ws0 := ws0_3 (List.mem_of_getElem? (i := 58) rfl) rfl
theorem mw_611 : Cond.fieldLink RX7 149 "HiveBylaws$Laws" "stance" "[I" ∈ ws0 := ws0_1 (List.mem_of_getElem? (i := 71) rfl) rfl
theorem mw_612 : Cond.fieldLink RX7 152 "HiveBylaws$Laws" "strength" "[I" ∈ ws0 := ws0_1 (List.mem_of_getElem? (i := 74) rfl) rfl
theorem mw_613 : Cond.fieldLink RX7 155 "HiveBylaws$Laws" "season" "[I" ∈ ws0 := ws0_1 (List.mem_of_getElem? (i := 77) rfl) rfl
theorem mw_614 : Cond.methodLink RX7 146 yX1_spotAt ∈ ws0 := ws0_3 (List.mem_of_getElem? (i := 59) rfl) rfl
theorem mw_615 : Cond.instanceMethod yX1_spotAt ∈ ws0 := ws0_3 (List.mem_of_getElem? (i := 60) rfl) rfl
theorem mw_616 : Cond.selects RX1 yX1_spotAt yX1_spotAt ∈ ws0 := ws0_3 (List.mem_of_getElem? (i := 61) rfl) rfl
theorem mw_617 : Cond.code yX1_spotAt cX1_spotAt 4 (some .int) ∈ ws0 := ws0_3 (List.mem_of_getElem? (i := 62) rfl) rfl
theorem mw_618 : Cond.methodLink RX7 158 yX6_weightAt ∈ ws0 := ws0_3 (List.mem_of_getElem? (i := 63) rfl) rfl
theorem mw_619 : Cond.methodLink RL 77 yX8_bylaw ∈ ws0 := ws0_4 (List.mem_of_getElem? (i := 141) rfl) rfl
theorem mw_620 : Cond.instanceMethod yX8_bylaw ∈ ws0 := ws0_4 (List.mem_of_getElem? (i := 142) rfl) rfl
theorem mw_621 : Cond.selects RX8 yX8_bylaw yX8_bylaw ∈ ws0 := ws0_4 (List.mem_of_getElem? (i := 143) rfl) rfl
theorem mw_622 : Cond.code yX8_bylaw cX8_bylaw 4 (some .int) ∈ ws0 := ws0_4 (List.mem_of_getElem? (i := 144) rfl) rfl
theorem mw_623 : Cond.methodLink RX8 176 yX8_ranked ∈ ws0 := ws0_4 (List.mem_of_getElem? (i := 145) rfl) rfl
theorem mw_624 : Cond.instanceMethod yX8_ranked ∈ ws0 := ws0_4 (List.mem_of_getElem? (i := 147) rfl) rfl
theorem mw_625 : Cond.selects RX8 yX8_ranked yX8_ranked ∈ ws0 := ws0_p (n := 15) (ws0_q3 (List.mem_of_getElem? (i := 8) rfl))
theorem mw_626 : Cond.code yX8_ranked cX8_ranked 4 (some .int) ∈ ws0 := ws0_4 (List.mem_of_getElem? (i := 148) rfl) rfl
theorem mw_627 : Cond.methodLink RL 78 yX7_petitionOf ∈ ws0 := ws0_3 (List.mem_of_getElem? (i := 64) rfl) rfl
theorem mw_628 : Cond.instanceMethod yX7_petitionOf ∈ ws0 := ws0_3 (List.mem_of_getElem? (i := 65) rfl) rfl
theorem mw_629 : Cond.selects RX7 yX7_petitionOf yX7_petitionOf ∈ ws0 := ws0_3 (List.mem_of_getElem? (i := 66) rfl) rfl
theorem mw_630 : Cond.code yX7_petitionOf cX7_petitionOf 4 (some .int) ∈ ws0 := ws0_3 (List.mem_of_getElem? (i := 67) rfl) rfl
theorem mw_631 : Cond.fieldLink RX7 164 "HiveBylaws$Petitions" "drone" "[I" ∈ ws0 := ws0_1 (List.mem_of_getElem? (i := 96) rfl) rfl
theorem mw_632 : Cond.fieldLink RX7 167 "HiveBylaws$Petitions" "place" "[I" ∈ ws0 := ws0_1 (List.mem_of_getElem? (i := 100) rfl) rfl
theorem mw_633 : Cond.fieldLink RX7 170 "HiveBylaws$Petitions" "doing" "[I" ∈ ws0 := ws0_1 (List.mem_of_getElem? (i := 104) rfl) rfl
theorem mw_634 : Cond.fieldLink RX7 173 "HiveBylaws$Petitions" "kind" "[I" ∈ ws0 := ws0_1 (List.mem_of_getElem? (i := 108) rfl) rfl
theorem mw_635 : Cond.fieldLink RX7 176 "HiveBylaws$Petitions" "support" "[I" ∈ ws0 := ws0_1 (List.mem_of_getElem? (i := 112) rfl) rfl
theorem mw_636 : Cond.fieldLink RX7 179 "HiveBylaws$Petitions" "seconders" "[I" ∈ ws0 := ws0_1 (List.mem_of_getElem? (i := 115) rfl) rfl
theorem mw_637 : Cond.methodLink RX7 161 yX3_has ∈ ws0 := ws0_3 (List.mem_of_getElem? (i := 68) rfl) rfl
theorem mw_638 : Cond.methodLink RL 81 yX8_petitionOf ∈ ws0 := ws0_4 (List.mem_of_getElem? (i := 149) rfl) rfl
theorem mw_639 : Cond.instanceMethod yX8_petitionOf ∈ ws0 := ws0_4 (List.mem_of_getElem? (i := 150) rfl) rfl
theorem mw_640 : Cond.selects RX8 yX8_petitionOf yX8_petitionOf ∈ ws0 := ws0_4 (List.mem_of_getElem? (i := 151) rfl) rfl
theorem mw_641 : Cond.code yX8_petitionOf cX8_petitionOf 4 (some .int) ∈ ws0 := ws0_4 (List.mem_of_getElem? (i := 152) rfl) rfl
theorem mw_642 : Cond.methodLink RL 82 yX7_heard ∈ ws0 := ws0_3 (List.mem_of_getElem? (i := 69) rfl) rfl
theorem mw_643 : Cond.instanceMethod yX7_heard ∈ ws0 := ws0_3 (List.mem_of_getElem? (i := 70) rfl) rfl
theorem mw_644 : Cond.selects RX7 yX7_heard yX7_heard ∈ ws0 := ws0_3 (List.mem_of_getElem? (i := 71) rfl) rfl
theorem mw_645 : Cond.code yX7_heard cX7_heard 2 (some .int) ∈ ws0 := ws0_3 (List.mem_of_getElem? (i := 72) rfl) rfl
theorem mw_646 : Cond.methodLink RX7 182 yX3_atRank ∈ ws0 := ws0_3 (List.mem_of_getElem? (i := 73) rfl) rfl
theorem mw_647 : Cond.methodLink RL 85 yX8_heard ∈ ws0 := ws0_4 (List.mem_of_getElem? (i := 153) rfl) rfl
theorem mw_648 : Cond.instanceMethod yX8_heard ∈ ws0 := ws0_4 (List.mem_of_getElem? (i := 154) rfl) rfl
theorem mw_649 : Cond.selects RX8 yX8_heard yX8_heard ∈ ws0 := ws0_4 (List.mem_of_getElem? (i := 155) rfl) rfl
theorem mw_650 : Cond.code yX8_heard cX8_heard 2 (some .int) ∈ ws0 := ws0_4 (List.mem_of_getElem? (i := 156) rfl) rfl
theorem mw_651 : Cond.methodLink RL 86 yX7_rule ∈ ws0 := ws0_3 (List.mem_of_getElem? (i := 74) rfl) rfl
theorem mw_652 : Cond.instanceMethod yX7_rule ∈ ws0 := ws0_3 (List.mem_of_getElem? (i := 75) rfl) rfl
theorem mw_653 : Cond.selects RX7 yX7_rule yX7_rule ∈ ws0 := ws0_3 (List.mem_of_getElem? (i := 76) rfl) rfl
theorem mw_654 : Cond.code yX7_rule cX7_rule 5 (some .int) ∈ ws0 := ws0_3 (List.mem_of_getElem? (i := 77) rfl) rfl
theorem mw_655 : Cond.methodLink RX7 185 yX7_isComb ∈ ws0 := ws0_3 (List.mem_of_getElem? (i := 78) rfl) rfl
theorem mw_656 : Cond.methodLink RX7 188 yX7_isDoing ∈ ws0 := ws0_3 (List.mem_of_getElem? (i := 79) rfl) rfl
theorem mw_657 : Cond.methodLink RX7 191 yX1_rulingPlace ∈ ws0 := ws0_3 (List.mem_of_getElem? (i := 80) rfl) rfl
theorem mw_658 : Cond.instanceMethod yX1_rulingPlace ∈ ws0 := ws0_3 (List.mem_of_getElem? (i := 81) rfl) rfl
theorem mw_659 : Cond.selects RX1 yX1_rulingPlace yX1_rulingPlace ∈ ws0 := ws0_3 (List.mem_of_getElem? (i := 82) rfl) rfl
theorem mw_660 : Cond.code yX1_rulingPlace cX1_rulingPlace 5 (some .int) ∈ ws0 := ws0_3 (List.mem_of_getElem? (i := 83) rfl) rfl
theorem mw_661 : Cond.methodLink RX1 31 yX1_strengthOf ∈ ws0 := ws0_3 (List.mem_of_getElem? (i := 84) rfl) rfl
theorem mw_662 : Cond.methodLink RX7 194 yX1_isForbidden ∈ ws0 := ws0_3 (List.mem_of_getElem? (i := 85) rfl) rfl
theorem mw_663 : Cond.instanceMethod yX1_isForbidden ∈ ws0 := ws0_3 (List.mem_of_getElem? (i := 86) rfl) rfl
theorem mw_664 : Cond.selects RX1 yX1_isForbidden yX1_isForbidden ∈ ws0 := ws0_3 (List.mem_of_getElem? (i := 87) rfl) rfl
theorem mw_665 : Cond.code yX1_isForbidden cX1_isForbidden 4 (some .boolean) ∈ ws0 := ws0_3 (List.mem_of_getElem? (i := 88) rfl) rfl
theorem mw_666 : Cond.methodLink RX1 35 yX1_rulingPlace ∈ ws0 := ws0_3 (List.mem_of_getElem? (i := 89) rfl) rfl
theorem mw_667 : Cond.methodLink RX1 38 yX1_stanceOf ∈ ws0 := ws0_3 (List.mem_of_getElem? (i := 90) rfl) rfl
theorem mw_668 : Cond.methodLink RX7 198 yX1_strengthOf ∈ ws0 := ws0_3 (List.mem_of_getElem? (i := 91) rfl) rfl
theorem mw_669 : Cond.methodLink RL 90 yX8_rule ∈ ws0 := ws0_4 (List.mem_of_getElem? (i := 157) rfl) rfl
theorem mw_670 : Cond.instanceMethod yX8_rule ∈ ws0 := ws0_4 (List.mem_of_getElem? (i := 158) rfl) rfl
theorem mw_671 : Cond.selects RX8 yX8_rule yX8_rule ∈ ws0 := ws0_4 (List.mem_of_getElem? (i := 159) rfl) rfl
theorem mw_672 : Cond.code yX8_rule cX8_rule 5 (some .int) ∈ ws0 := ws0_4 (List.mem_of_getElem? (i := 160) rfl) rfl
theorem mw_673 : Cond.methodLink RX8 179 yX8_ruling ∈ ws0 := ws0_4 (List.mem_of_getElem? (i := 161) rfl) rfl
theorem mw_674 : Cond.instanceMethod yX8_ruling ∈ ws0 := ws0_4 (List.mem_of_getElem? (i := 163) rfl) rfl
theorem mw_675 : Cond.selects RX8 yX8_ruling yX8_ruling ∈ ws0 := ws0_p (n := 15) (ws0_q3 (List.mem_of_getElem? (i := 9) rfl))
theorem mw_676 : Cond.code yX8_ruling cX8_ruling 5 (some .int) ∈ ws0 := ws0_4 (List.mem_of_getElem? (i := 164) rfl) rfl
theorem mw_677 : Cond.methodLink RX8 182 yX8_isAllowed ∈ ws0 := ws0_4 (List.mem_of_getElem? (i := 165) rfl) rfl
theorem mw_678 : Cond.instanceMethod yX8_isAllowed ∈ ws0 := ws0_4 (List.mem_of_getElem? (i := 167) rfl) rfl
theorem mw_679 : Cond.selects RX8 yX8_isAllowed yX8_isAllowed ∈ ws0 := ws0_p (n := 15) (ws0_q3 (List.mem_of_getElem? (i := 10) rfl))
theorem mw_680 : Cond.code yX8_isAllowed cX8_isAllowed 4 (some .boolean) ∈ ws0 := ws0_4 (List.mem_of_getElem? (i := 168) rfl) rfl
theorem mw_681 : Cond.methodLink RL 91 yX7_reason ∈ ws0 := ws0_3 (List.mem_of_getElem? (i := 92) rfl) rfl
theorem mw_682 : Cond.instanceMethod yX7_reason ∈ ws0 := ws0_3 (List.mem_of_getElem? (i := 93) rfl) rfl
theorem mw_683 : Cond.selects RX7 yX7_reason yX7_reason ∈ ws0 := ws0_3 (List.mem_of_getElem? (i := 94) rfl) rfl
theorem mw_684 : Cond.code yX7_reason cX7_reason 2 (some .int) ∈ ws0 := ws0_3 (List.mem_of_getElem? (i := 95) rfl) rfl
theorem mw_685 : Cond.fieldLink RX7 204 "HiveBylaws$State" "verdict" "[I" ∈ ws0 := ws0_1 (List.mem_of_getElem? (i := 172) rfl) rfl
theorem mw_686 : Cond.methodLink RX7 201 yX5_hearPetitions ∈ ws0 := ws0_3 (List.mem_of_getElem? (i := 96) rfl) rfl
theorem mw_687 : Cond.methodLink RL 94 yX8_reason ∈ ws0 := ws0_4 (List.mem_of_getElem? (i := 169) rfl) rfl
theorem mw_688 : Cond.instanceMethod yX8_reason ∈ ws0 := ws0_4 (List.mem_of_getElem? (i := 170) rfl) rfl
theorem mw_689 : Cond.selects RX8 yX8_reason yX8_reason ∈ ws0 := ws0_4 (List.mem_of_getElem? (i := 171) rfl) rfl
theorem mw_690 : Cond.code yX8_reason cX8_reason 2 (some .int) ∈ ws0 := ws0_4 (List.mem_of_getElem? (i := 172) rfl) rfl
theorem mw_691 : Cond.methodLink RX8 185 yX8_tries ∈ ws0 := ws0_4 (List.mem_of_getElem? (i := 173) rfl) rfl
theorem mw_692 : Cond.instanceMethod yX8_tries ∈ ws0 := ws0_4 (List.mem_of_getElem? (i := 175) rfl) rfl
theorem mw_693 : Cond.selects RX8 yX8_tries yX8_tries ∈ ws0 := ws0_p (n := 15) (ws0_q3 (List.mem_of_getElem? (i := 11) rfl))
theorem mw_694 : Cond.code yX8_tries cX8_tries 2 none ∈ ws0 := ws0_4 (List.mem_of_getElem? (i := 176) rfl) rfl
theorem mw_695 : Cond.methodLink RL 95 yX7_wouldPass ∈ ws0 := ws0_3 (List.mem_of_getElem? (i := 97) rfl) rfl
theorem mw_696 : Cond.instanceMethod yX7_wouldPass ∈ ws0 := ws0_3 (List.mem_of_getElem? (i := 98) rfl) rfl
theorem mw_697 : Cond.selects RX7 yX7_wouldPass yX7_wouldPass ∈ ws0 := ws0_3 (List.mem_of_getElem? (i := 99) rfl) rfl
theorem mw_698 : Cond.code yX7_wouldPass cX7_wouldPass 3 (some .int) ∈ ws0 := ws0_3 (List.mem_of_getElem? (i := 100) rfl) rfl
theorem mw_699 : Cond.fieldLink RX7 207 "HiveBylaws$Petitions" "size" "I" ∈ ws0 := ws0_1 (List.mem_of_getElem? (i := 93) rfl) rfl
theorem mw_700 : Cond.methodLink RL 98 yX8_wouldPass ∈ ws0 := ws0_4 (List.mem_of_getElem? (i := 177) rfl) rfl
theorem mw_701 : Cond.instanceMethod yX8_wouldPass ∈ ws0 := ws0_4 (List.mem_of_getElem? (i := 178) rfl) rfl
theorem mw_702 : Cond.selects RX8 yX8_wouldPass yX8_wouldPass ∈ ws0 := ws0_4 (List.mem_of_getElem? (i := 179) rfl) rfl
theorem mw_703 : Cond.code yX8_wouldPass cX8_wouldPass 3 (some .int) ∈ ws0 := ws0_4 (List.mem_of_getElem? (i := 180) rfl) rfl
theorem mw_704 : Cond.methodLink RL 99 yX7_lacks ∈ ws0 := ws0_3 (List.mem_of_getElem? (i := 101) rfl) rfl
theorem mw_705 : Cond.instanceMethod yX7_lacks ∈ ws0 := ws0_3 (List.mem_of_getElem? (i := 102) rfl) rfl
theorem mw_706 : Cond.selects RX7 yX7_lacks yX7_lacks ∈ ws0 := ws0_3 (List.mem_of_getElem? (i := 103) rfl) rfl
theorem mw_707 : Cond.code yX7_lacks cX7_lacks 4 (some .int) ∈ ws0 := ws0_3 (List.mem_of_getElem? (i := 104) rfl) rfl
theorem mw_708 : Cond.methodLink RX7 209 yX5_reasonToRefuse ∈ ws0 := ws0_3 (List.mem_of_getElem? (i := 105) rfl) rfl
theorem mw_709 : Cond.methodLink RL 102 yX8_lacks ∈ ws0 := ws0_4 (List.mem_of_getElem? (i := 181) rfl) rfl
theorem mw_710 : Cond.instanceMethod yX8_lacks ∈ ws0 := ws0_4 (List.mem_of_getElem? (i := 182) rfl) rfl
theorem mw_711 : Cond.selects RX8 yX8_lacks yX8_lacks ∈ ws0 := ws0_4 (List.mem_of_getElem? (i := 183) rfl) rfl
theorem mw_712 : Cond.code yX8_lacks cX8_lacks 4 (some .int) ∈ ws0 := ws0_4 (List.mem_of_getElem? (i := 184) rfl) rfl
theorem mw_713 : Cond.methodLink RL 103 yX7_free ∈ ws0 := ws0_3 (List.mem_of_getElem? (i := 106) rfl) rfl
theorem mw_714 : Cond.instanceMethod yX7_free ∈ ws0 := ws0_3 (List.mem_of_getElem? (i := 107) rfl) rfl
theorem mw_715 : Cond.selects RX7 yX7_free yX7_free ∈ ws0 := ws0_3 (List.mem_of_getElem? (i := 108) rfl) rfl
theorem mw_716 : Cond.code yX7_free cX7_free 2 (some .int) ∈ ws0 := ws0_3 (List.mem_of_getElem? (i := 109) rfl) rfl
theorem mw_717 : Cond.fieldLink RX7 212 "HiveBylaws$Swarm" "size" "I" ∈ ws0 := ws0_1 (List.mem_of_getElem? (i := 33) rfl) rfl
theorem mw_718 : Cond.methodLink RX7 213 yX3_makers ∈ ws0 := ws0_3 (List.mem_of_getElem? (i := 110) rfl) rfl
theorem mw_719 : Cond.instanceMethod yX3_makers ∈ ws0 := ws0_3 (List.mem_of_getElem? (i := 111) rfl) rfl
theorem mw_720 : Cond.selects RX3 yX3_makers yX3_makers ∈ ws0 := ws0_3 (List.mem_of_getElem? (i := 112) rfl) rfl
theorem mw_721 : Cond.code yX3_makers cX3_makers 3 (some .int) ∈ ws0 := ws0_3 (List.mem_of_getElem? (i := 113) rfl) rfl
theorem mw_722 : Cond.methodLink RL 106 yX8_free ∈ ws0 := ws0_4 (List.mem_of_getElem? (i := 185) rfl) rfl
theorem mw_723 : Cond.instanceMethod yX8_free ∈ ws0 := ws0_4 (List.mem_of_getElem? (i := 186) rfl) rfl
theorem mw_724 : Cond.selects RX8 yX8_free yX8_free ∈ ws0 := ws0_4 (List.mem_of_getElem? (i := 187) rfl) rfl
theorem mw_725 : Cond.code yX8_free cX8_free 3 (some .int) ∈ ws0 := ws0_4 (List.mem_of_getElem? (i := 188) rfl) rfl
theorem mw_726 : Cond.methodLink RL 107 yX7_oldest ∈ ws0 := ws0_3 (List.mem_of_getElem? (i := 114) rfl) rfl
theorem mw_727 : Cond.instanceMethod yX7_oldest ∈ ws0 := ws0_3 (List.mem_of_getElem? (i := 115) rfl) rfl
theorem mw_728 : Cond.selects RX7 yX7_oldest yX7_oldest ∈ ws0 := ws0_3 (List.mem_of_getElem? (i := 116) rfl) rfl
theorem mw_729 : Cond.code yX7_oldest cX7_oldest 4 (some .int) ∈ ws0 := ws0_3 (List.mem_of_getElem? (i := 117) rfl) rfl
theorem mw_730 : Cond.methodLink RX7 216 yX1_oldestSpot ∈ ws0 := ws0_3 (List.mem_of_getElem? (i := 118) rfl) rfl
theorem mw_731 : Cond.instanceMethod yX1_oldestSpot ∈ ws0 := ws0_3 (List.mem_of_getElem? (i := 119) rfl) rfl
theorem mw_732 : Cond.selects RX1 yX1_oldestSpot yX1_oldestSpot ∈ ws0 := ws0_3 (List.mem_of_getElem? (i := 120) rfl) rfl
theorem mw_733 : Cond.code yX1_oldestSpot cX1_oldestSpot 5 (some .int) ∈ ws0 := ws0_3 (List.mem_of_getElem? (i := 121) rfl) rfl
theorem mw_734 : Cond.methodLink RX7 219 yX1_rankOf ∈ ws0 := ws0_3 (List.mem_of_getElem? (i := 122) rfl) rfl
theorem mw_735 : Cond.methodLink RL 110 yX8_oldest ∈ ws0 := ws0_4 (List.mem_of_getElem? (i := 189) rfl) rfl
theorem mw_736 : Cond.instanceMethod yX8_oldest ∈ ws0 := ws0_4 (List.mem_of_getElem? (i := 190) rfl) rfl
theorem mw_737 : Cond.selects RX8 yX8_oldest yX8_oldest ∈ ws0 := ws0_4 (List.mem_of_getElem? (i := 191) rfl) rfl
theorem mw_738 : Cond.code yX8_oldest cX8_oldest 4 (some .int) ∈ ws0 := ws0_4 (List.mem_of_getElem? (i := 192) rfl) rfl
theorem mw_739 : Cond.methodLink RX8 188 yX8_oldestAt ∈ ws0 := ws0_4 (List.mem_of_getElem? (i := 193) rfl) rfl
theorem mw_740 : Cond.instanceMethod yX8_oldestAt ∈ ws0 := ws0_4 (List.mem_of_getElem? (i := 195) rfl) rfl
theorem mw_741 : Cond.selects RX8 yX8_oldestAt yX8_oldestAt ∈ ws0 := ws0_p (n := 15) (ws0_q3 (List.mem_of_getElem? (i := 12) rfl))
theorem mw_742 : Cond.code yX8_oldestAt cX8_oldestAt 5 (some .int) ∈ ws0 := ws0_4 (List.mem_of_getElem? (i := 196) rfl) rfl
theorem mw_743 : Cond.methodLink RX8 191 yX8_rankOf ∈ ws0 := ws0_4 (List.mem_of_getElem? (i := 197) rfl) rfl
theorem mw_744 : Cond.instanceMethod yX8_rankOf ∈ ws0 := ws0_4 (List.mem_of_getElem? (i := 199) rfl) rfl
theorem mw_745 : Cond.selects RX8 yX8_rankOf yX8_rankOf ∈ ws0 := ws0_p (n := 15) (ws0_q3 (List.mem_of_getElem? (i := 13) rfl))
theorem mw_746 : Cond.code yX8_rankOf cX8_rankOf 4 (some .int) ∈ ws0 := ws0_4 (List.mem_of_getElem? (i := 200) rfl) rfl
theorem mw_747 : Cond.methodLink RL 111 yX7_count ∈ ws0 := ws0_3 (List.mem_of_getElem? (i := 123) rfl) rfl
theorem mw_748 : Cond.instanceMethod yX7_count ∈ ws0 := ws0_3 (List.mem_of_getElem? (i := 124) rfl) rfl
theorem mw_749 : Cond.selects RX7 yX7_count yX7_count ∈ ws0 := ws0_3 (List.mem_of_getElem? (i := 125) rfl) rfl
theorem mw_750 : Cond.code yX7_count cX7_count 2 (some .int) ∈ ws0 := ws0_3 (List.mem_of_getElem? (i := 126) rfl) rfl
theorem mw_751 : Cond.fieldLink RX7 222 "HiveBylaws$State" "day" "I" ∈ ws0 := ws0_1 (List.mem_of_getElem? (i := 164) rfl) rfl
theorem mw_752 : Cond.fieldLink RX7 225 "HiveBylaws$State" "season" "I" ∈ ws0 := ws0_1 (List.mem_of_getElem? (i := 166) rfl) rfl
theorem mw_753 : Cond.fieldLink RX7 227 "HiveBylaws$State" "daysOfSeason" "I" ∈ ws0 := ws0_1 (List.mem_of_getElem? (i := 168) rfl) rfl
theorem mw_754 : Cond.fieldLink RX7 237 "HiveBylaws$State" "repeals" "I" ∈ ws0 := ws0_1 (List.mem_of_getElem? (i := 170) rfl) rfl
theorem mw_755 : Cond.fieldLink RX7 243 "HiveBylaws$State" "setting" "[I" ∈ ws0 := ws0_1 (List.mem_of_getElem? (i := 162) rfl) rfl
theorem mw_756 : Cond.fieldLink RX7 246 "HiveBylaws$History" "size" "I" ∈ ws0 := ws0_1 (List.mem_of_getElem? (i := 206) rfl) rfl
theorem mw_757 : Cond.fieldLink RX7 247 "HiveBylaws$PetitionText" "length" "I" ∈ ws0 := ws0_1 (List.mem_of_getElem? (i := 222) rfl) rfl
theorem mw_758 : Cond.methodLink RX7 230 yX1_forbidding ∈ ws0 := ws0_3 (List.mem_of_getElem? (i := 127) rfl) rfl
theorem mw_759 : Cond.instanceMethod yX1_forbidding ∈ ws0 := ws0_3 (List.mem_of_getElem? (i := 128) rfl) rfl
theorem mw_760 : Cond.selects RX1 yX1_forbidding yX1_forbidding ∈ ws0 := ws0_3 (List.mem_of_getElem? (i := 129) rfl) rfl
theorem mw_761 : Cond.code yX1_forbidding cX1_forbidding 3 (some .int) ∈ ws0 := ws0_3 (List.mem_of_getElem? (i := 130) rfl) rfl
theorem mw_762 : Cond.methodLink RX7 233 yX7_sum ∈ ws0 := ws0_3 (List.mem_of_getElem? (i := 131) rfl) rfl
theorem mw_763 : Cond.static yX7_sum ∈ ws0 := ws0_3 (List.mem_of_getElem? (i := 132) rfl) rfl
theorem mw_764 : Cond.code yX7_sum cX7_sum 6 (some .int) ∈ ws0 := ws0_3 (List.mem_of_getElem? (i := 133) rfl) rfl
theorem mw_765 : Cond.methodLink RX7 240 yX1_forbiddenDoings ∈ ws0 := ws0_3 (List.mem_of_getElem? (i := 134) rfl) rfl
theorem mw_766 : Cond.instanceMethod yX1_forbiddenDoings ∈ ws0 := ws0_3 (List.mem_of_getElem? (i := 135) rfl) rfl
theorem mw_767 : Cond.selects RX1 yX1_forbiddenDoings yX1_forbiddenDoings ∈ ws0 := ws0_3 (List.mem_of_getElem? (i := 136) rfl) rfl
theorem mw_768 : Cond.code yX1_forbiddenDoings cX1_forbiddenDoings 4 (some .int) ∈ ws0 := ws0_3 (List.mem_of_getElem? (i := 137) rfl) rfl
theorem mw_769 : Cond.methodLink RX1 41 yX1_isForbidden ∈ ws0 := ws0_3 (List.mem_of_getElem? (i := 138) rfl) rfl
theorem mw_770 : Cond.methodLink RL 114 yX8_count ∈ ws0 := ws0_4 (List.mem_of_getElem? (i := 201) rfl) rfl
theorem mw_771 : Cond.instanceMethod yX8_count ∈ ws0 := ws0_4 (List.mem_of_getElem? (i := 202) rfl) rfl
theorem mw_772 : Cond.selects RX8 yX8_count yX8_count ∈ ws0 := ws0_4 (List.mem_of_getElem? (i := 203) rfl) rfl
theorem mw_773 : Cond.code yX8_count cX8_count 2 (some .int) ∈ ws0 := ws0_4 (List.mem_of_getElem? (i := 204) rfl) rfl
theorem mw_774 : Cond.methodLink RX8 194 yX8_forbiddenAtCombs ∈ ws0 := ws0_4 (List.mem_of_getElem? (i := 205) rfl) rfl
theorem mw_775 : Cond.instanceMethod yX8_forbiddenAtCombs ∈ ws0 := ws0_4 (List.mem_of_getElem? (i := 207) rfl) rfl
theorem mw_776 : Cond.selects RX8 yX8_forbiddenAtCombs yX8_forbiddenAtCombs ∈ ws0 := ws0_p (n := 15) (ws0_q3 (List.mem_of_getElem? (i := 14) rfl))
theorem mw_777 : Cond.code yX8_forbiddenAtCombs cX8_forbiddenAtCombs 3 (some .int) ∈ ws0 := ws0_4 (List.mem_of_getElem? (i := 208) rfl) rfl
theorem in0_X0 : ∀ w ∈ wsX00, w ∈ ws0 := by
  intro w hw
  obtain ⟨k, hk, rfl⟩ := List.mem_map.mp hw
  have hk := List.mem_range.mp hk
  match k, hk with
  | 0, _ => exact ws0_1 (List.mem_of_getElem? (i := 207) rfl) rfl
  | 1, _ => exact ws0_1 (List.mem_of_getElem? (i := 209) rfl) rfl
  | 2, _ => exact ws0_1 (List.mem_of_getElem? (i := 211) rfl) rfl
  | k + 3, hk => omega
theorem in0_X1 : ∀ w ∈ wsX10, w ∈ ws0 := by
  intro w hw
  obtain ⟨k, hk, rfl⟩ := List.mem_map.mp hw
  have hk := List.mem_range.mp hk
  match k, hk with
  | 0, _ => exact ws0_1 (List.mem_of_getElem? (i := 78) rfl) rfl
  | 1, _ => exact ws0_1 (List.mem_of_getElem? (i := 80) rfl) rfl
  | 2, _ => exact ws0_1 (List.mem_of_getElem? (i := 82) rfl) rfl
  | k + 3, hk => omega
theorem in0_X2 : ∀ w ∈ wsX20, w ∈ ws0 := by
  intro w hw
  obtain ⟨k, hk, rfl⟩ := List.mem_map.mp hw
  have hk := List.mem_range.mp hk
  match k, hk with
  | 0, _ => exact ws0_1 (List.mem_of_getElem? (i := 236) rfl) rfl
  | 1, _ => exact ws0_1 (List.mem_of_getElem? (i := 238) rfl) rfl
  | 2, _ => exact ws0_2 (List.mem_of_getElem? (i := 0) rfl) rfl
  | 3, _ => exact ws0_2 (List.mem_of_getElem? (i := 2) rfl) rfl
  | 4, _ => exact ws0_2 (List.mem_of_getElem? (i := 4) rfl) rfl
  | 5, _ => exact ws0_2 (List.mem_of_getElem? (i := 6) rfl) rfl
  | 6, _ => exact ws0_2 (List.mem_of_getElem? (i := 8) rfl) rfl
  | 7, _ => exact ws0_2 (List.mem_of_getElem? (i := 10) rfl) rfl
  | 8, _ => exact ws0_2 (List.mem_of_getElem? (i := 12) rfl) rfl
  | k + 9, hk => omega
theorem in0_X3 : ∀ w ∈ wsX30, w ∈ ws0 := by
  intro w hw
  obtain ⟨k, hk, rfl⟩ := List.mem_map.mp hw
  have hk := List.mem_range.mp hk
  match k, hk with
  | 0, _ => exact ws0_1 (List.mem_of_getElem? (i := 116) rfl) rfl
  | 1, _ => exact ws0_1 (List.mem_of_getElem? (i := 118) rfl) rfl
  | 2, _ => exact ws0_1 (List.mem_of_getElem? (i := 120) rfl) rfl
  | 3, _ => exact ws0_1 (List.mem_of_getElem? (i := 122) rfl) rfl
  | 4, _ => exact ws0_1 (List.mem_of_getElem? (i := 124) rfl) rfl
  | 5, _ => exact ws0_1 (List.mem_of_getElem? (i := 126) rfl) rfl
  | 6, _ => exact ws0_1 (List.mem_of_getElem? (i := 128) rfl) rfl
  | k + 7, hk => omega
theorem in0_X4 : ∀ w ∈ wsX40, w ∈ ws0 := by
  intro w hw
  obtain ⟨k, hk, rfl⟩ := List.mem_map.mp hw
  have hk := List.mem_range.mp hk
  match k, hk with
  | 0, _ => exact ws0_1 (List.mem_of_getElem? (i := 143) rfl) rfl
  | 1, _ => exact ws0_1 (List.mem_of_getElem? (i := 145) rfl) rfl
  | 2, _ => exact ws0_1 (List.mem_of_getElem? (i := 147) rfl) rfl
  | 3, _ => exact ws0_1 (List.mem_of_getElem? (i := 149) rfl) rfl
  | 4, _ => exact ws0_1 (List.mem_of_getElem? (i := 151) rfl) rfl
  | k + 5, hk => omega
theorem in0_X5 : ∀ w ∈ wsX50, w ∈ ws0 := by
  intro w hw
  obtain ⟨k, hk, rfl⟩ := List.mem_map.mp hw
  have hk := List.mem_range.mp hk
  match k, hk with
  | 0, _ => exact ws0_1 (List.mem_of_getElem? (i := 173) rfl) rfl
  | 1, _ => exact ws0_1 (List.mem_of_getElem? (i := 175) rfl) rfl
  | 2, _ => exact ws0_1 (List.mem_of_getElem? (i := 177) rfl) rfl
  | 3, _ => exact ws0_1 (List.mem_of_getElem? (i := 179) rfl) rfl
  | 4, _ => exact ws0_1 (List.mem_of_getElem? (i := 181) rfl) rfl
  | 5, _ => exact ws0_1 (List.mem_of_getElem? (i := 183) rfl) rfl
  | 6, _ => exact ws0_1 (List.mem_of_getElem? (i := 185) rfl) rfl
  | 7, _ => exact ws0_1 (List.mem_of_getElem? (i := 187) rfl) rfl
  | 8, _ => exact ws0_1 (List.mem_of_getElem? (i := 189) rfl) rfl
  | 9, _ => exact ws0_1 (List.mem_of_getElem? (i := 191) rfl) rfl
  | k + 10, hk => omega
theorem in0_X6 : ∀ w ∈ wsX60, w ∈ ws0 := by
  intro w hw
  obtain ⟨k, hk, rfl⟩ := List.mem_map.mp hw
  have hk := List.mem_range.mp hk
  match k, hk with
  | 0, _ => exact ws0_1 (List.mem_of_getElem? (i := 49) rfl) rfl
  | 1, _ => exact ws0_1 (List.mem_of_getElem? (i := 51) rfl) rfl
  | 2, _ => exact ws0_1 (List.mem_of_getElem? (i := 53) rfl) rfl
  | 3, _ => exact ws0_1 (List.mem_of_getElem? (i := 55) rfl) rfl
  | 4, _ => exact ws0_1 (List.mem_of_getElem? (i := 57) rfl) rfl
  | 5, _ => exact ws0_1 (List.mem_of_getElem? (i := 59) rfl) rfl
  | k + 6, hk => omega
theorem in0_X7 : ∀ w ∈ wsX70, w ∈ ws0 := by
  intro w hw
  obtain ⟨k, hk, rfl⟩ := List.mem_map.mp hw
  have hk := List.mem_range.mp hk
  match k, hk with
  | 0, _ => exact ws0_2 (List.mem_of_getElem? (i := 25) rfl) rfl
  | 1, _ => exact ws0_2 (List.mem_of_getElem? (i := 27) rfl) rfl
  | 2, _ => exact ws0_2 (List.mem_of_getElem? (i := 29) rfl) rfl
  | 3, _ => exact ws0_2 (List.mem_of_getElem? (i := 31) rfl) rfl
  | 4, _ => exact ws0_2 (List.mem_of_getElem? (i := 33) rfl) rfl
  | 5, _ => exact ws0_2 (List.mem_of_getElem? (i := 35) rfl) rfl
  | 6, _ => exact ws0_2 (List.mem_of_getElem? (i := 37) rfl) rfl
  | 7, _ => exact ws0_2 (List.mem_of_getElem? (i := 39) rfl) rfl
  | 8, _ => exact ws0_2 (List.mem_of_getElem? (i := 41) rfl) rfl
  | k + 9, hk => omega
theorem in0_X8 : ∀ w ∈ wsX80, w ∈ ws0 := by
  intro w hw
  obtain ⟨k, hk, rfl⟩ := List.mem_map.mp hw
  have hk := List.mem_range.mp hk
  match k, hk with
  | 0, _ => exact ws0_3 (List.mem_of_getElem? (i := 160) rfl) rfl
  | 1, _ => exact ws0_3 (List.mem_of_getElem? (i := 162) rfl) rfl
  | 2, _ => exact ws0_3 (List.mem_of_getElem? (i := 164) rfl) rfl
  | 3, _ => exact ws0_3 (List.mem_of_getElem? (i := 166) rfl) rfl
  | 4, _ => exact ws0_3 (List.mem_of_getElem? (i := 168) rfl) rfl
  | 5, _ => exact ws0_3 (List.mem_of_getElem? (i := 170) rfl) rfl
  | 6, _ => exact ws0_3 (List.mem_of_getElem? (i := 172) rfl) rfl
  | 7, _ => exact ws0_3 (List.mem_of_getElem? (i := 174) rfl) rfl
  | 8, _ => exact ws0_3 (List.mem_of_getElem? (i := 176) rfl) rfl
  | 9, _ => exact ws0_3 (List.mem_of_getElem? (i := 178) rfl) rfl
  | 10, _ => exact ws0_3 (List.mem_of_getElem? (i := 180) rfl) rfl
  | 11, _ => exact ws0_3 (List.mem_of_getElem? (i := 182) rfl) rfl
  | 12, _ => exact ws0_3 (List.mem_of_getElem? (i := 184) rfl) rfl
  | 13, _ => exact ws0_3 (List.mem_of_getElem? (i := 186) rfl) rfl
  | 14, _ => exact ws0_3 (List.mem_of_getElem? (i := 188) rfl) rfl
  | k + 15, hk => omega
end
section
/-! THE WORLD: cells number 0 .. n-1, cell k at the address ad k holding ce k; rows of the kit in these words -/
abbrev JJ : Type := va_G × ClassId × ClassId × ClassId
abbrev tysJ (J : JJ) : List (ClassId × FieldType) := [(J.2.1, .int), (J.2.2.1, .char), (J.2.2.2, .object RX5)]
def wl (ad : Nat → Nat) (n : Nat) (ce : Nat → va_E) : va_W := (List.range n).map fun k => (ad k, ce k)
theorem wl_len {ad : Nat → Nat} {n : Nat} {ce : Nat → va_E} : (wl ad n ce).length = n := by simp [wl]
theorem wl_get {ad : Nat → Nat} {n k : Nat} {ce : Nat → va_E} (hk : k < n) : (wl ad n ce)[k]? = some (ad k, ce k) := by
  simp [wl, hk]
theorem wl_set {ad : Nat → Nat} {n k : Nat} {ce : Nat → va_E} (hk : k < n) (e : va_E) : (wl ad n ce).set k (ad k, e) = wl ad n (va_up ce k e) := by
  apply List.ext_getElem?
  intro i
  by_cases hi : i < n
  · rw [wl_get hi]
    by_cases hik : i = k
    · subst hik
      rw [List.getElem?_set_self (by rw [wl_len]; exact hi)]
      simp [va_up]
    · rw [List.getElem?_set_ne (Ne.symm hik), wl_get hi]
      simp [va_up, hik]
  · rw [List.getElem?_eq_none (by simp [wl_len]; omega), List.getElem?_eq_none (by simp [wl_len]; omega)]
theorem wl_push {ad : Nat → Nat} {n : Nat} {ce : Nat → va_E} (q : Nat) (e : va_E) : wl ad n ce ++ [(q, e)] = wl (va_up ad n q) (n + 1) (va_up ce n e) := by
  unfold wl
  rw [List.range_succ, List.map_append]
  congr 1
  · apply List.map_congr_left
    intro k hk
    have := List.mem_range.mp hk
    simp [va_up, show ¬ k = n by omega]
  · simp [va_up]
/-- what a method's walk holds of machine and heap -/
def HS (J : JJ) (z : Nat) (ad : Nat → Nat) (n : Nat) (ce : Nat → va_E) (s : State) (H : Heap) (locs : List Loc) : Prop :=
  va_K J.1 vwCl (tysJ J) s ∧ va_P J.1 vwCl (wl ad n ce) H ∧ va_D (fun q => z ≤ q) (wl ad n ce) ∧ va_S (fun q => z ≤ q) s.heap H locs ∧ z ≤ s.heap.size
/-- the same at a state, ahead of a call or behind it -/
def HU (J : JJ) (z : Nat) (ad : Nat → Nat) (n : Nat) (ce : Nat → va_E) (U : State) : Prop :=
  va_K J.1 vwCl (tysJ J) U ∧ va_P J.1 vwCl (wl ad n ce) U.heap ∧ va_D (fun q => z ≤ q) (wl ad n ce) ∧ z ≤ U.heap.size
/-- the machine's facts of a method of the class own -/
def Cx (p : Program) (c : Code) (cc : ByteArray) (s : State) (m : MethodId) (own : String) (args : Array Value) (nL : Nat) : Prop :=
  p.tables.exec = Jvm.exec ∧ c.code = cc ∧ c.maxLocals = nL ∧ s.vm.findClass own = some m.cls ∧ ∀ w ∈ ws0, w.before args s = true
def rmD (d mc ms : Nat) : Room := { frames := d, cells := mc, slots := ms, locals := 30 * d }
abbrev wsY (y : MethodName) (cc : ByteArray) (mx : Nat) (ret : Option FieldType) : List Cond := .code y cc mx ret :: ws0
section BASE
variable {p : Program} {l : Launch} {e : Env} {R : Room} {s : State} {m : MethodId} {args : Array Value} {below : List Frame} {meth : Method} {c : Code} {H : Heap} {locs : List Loc} {cells slots : Nat} {Q : State → Prop}
variable {cc : ByteArray} {pc : Nat} {ls : Array Slot} {rest : List Value} {J : JJ} {z n nL : Nat} {ad : Nat → Nat} {ce : Nat → va_E} {own : String}
theorem rw_get (X : Cx p c cc s m own args nL) (h : HS J z ad n ce s H locs) {C : String} {T : u_T} {N ci index : Nat} (hin : ∀ w ∈ u_ws C T N, w ∈ ws0) (hc : vwCl[ci]? = some (C, T, N)) (j : Nat) (hj : j < N) (hlink : Cond.fieldLink own index (T j).1 (T j).2.1 (T j).2.2.1 ∈ ws0) (k : Nat) (hk : k < n) {fs : List Value} (he : ce k = .inr (ci, fs)) {v : Value} (hv : fs[j]? = some v) (hdg : decode cc pc = .ok (.getfield index, 3))
    (kk : W p l e R s m args below meth c H locs cells slots Q (F0 m (pc + 3) ls (v :: rest))) : W p l e R s m args below meth c H locs cells slots Q (F0 m pc ls (.ref (ad k) :: rest)) := by
  obtain ⟨hx, hb, hml, hown, hts⟩ := X
  obtain ⟨hK, hP, hD, hS, hz⟩ := h
  exact va_get hx hb hts hin hown hK hP k (by rw [wl_get hk, he]) hc j hj (hts _ hlink) (fun _ h9 => h9) hv hdg kk
theorem rw_put (X : Cx p c cc s m own args nL) (h : HS J z ad n ce s H locs) {C : String} {T : u_T} {N ci index : Nat} (hin : ∀ w ∈ u_ws C T N, w ∈ ws0) (ty0 : Nat → FieldType) (hty : ∀ k, k < N → parseFieldDescriptor (T k).2.2.1 = some (ty0 k)) (hnm : ∀ a, a < N → ∀ b, b < N → a ≠ b → (T a).2.1 ≠ (T b).2.1) (hc : vwCl[ci]? = some (C, T, N)) (j : Nat) (hj : j < N) (hlink : Cond.fieldLink own index (T j).1 (T j).2.1 (T j).2.2.1 ∈ ws0) (hfin : (T j).2.2.2 = false) (k : Nat) (hk : k < n) {fs : List Value} (he : ce k = .inr (ci, fs)) (hl : j < fs.length) {v : Value} (hn : narrow (ty0 j) v = v) (hfit : fits (ty0 j) v = true) (hdg : decode cc pc = .ok (.putfield index, 3))
    (kk : ∀ (H1 : Heap) (locs1 : List Loc), HS J z ad n (va_up ce k (.inr (ci, fs.set j v))) s H1 locs1 → W p l e R s m args below meth c H1 locs1 cells slots Q (F0 m (pc + 3) ls rest)) : W p l e R s m args below meth c H locs cells slots Q (F0 m pc ls (v :: .ref (ad k) :: rest)) := by
  obtain ⟨hx, hb, hml, hown, hts⟩ := X
  obtain ⟨hK, hP, hD, hS, hz⟩ := h
  refine va_put hx hb hts hin ty0 hty hnm hown hK hP hD hS k (by rw [wl_get hk, he]) hc j hj (hts _ hlink) (fun _ h9 => h9) hfin (hty j hj) hn hfit hl hdg (fun H1 locs1 hP1 hD1 hS1 => ?_)
  rw [wl_set hk] at hP1 hD1
  exact kk H1 locs1 ⟨hK, hP1, hD1, hS1, hz⟩
theorem rw_putF (X : Cx p c cc s m own args nL) (hinit : meth.name = "<init>") (h : HS J z ad n ce s H locs) {C : String} {T : u_T} {N ci index : Nat} (hin : ∀ w ∈ u_ws C T N, w ∈ ws0) (ty0 : Nat → FieldType) (hty : ∀ k, k < N → parseFieldDescriptor (T k).2.2.1 = some (ty0 k)) (hnm : ∀ a, a < N → ∀ b, b < N → a ≠ b → (T a).2.1 ≠ (T b).2.1) (hc : vwCl[ci]? = some (C, T, N)) (j : Nat) (hj : j < N) (hlink : Cond.fieldLink own index (T j).1 (T j).2.1 (T j).2.2.1 ∈ ws0) (hfin : (T j).2.2.2 = true) (hdecl : (T j).1 = own) (k : Nat) (hk : k < n) {fs : List Value} (he : ce k = .inr (ci, fs)) (hl : j < fs.length) {v : Value} (hn : narrow (ty0 j) v = v) (hfit : fits (ty0 j) v = true) (hdg : decode cc pc = .ok (.putfield index, 3))
    (kk : ∀ (H1 : Heap) (locs1 : List Loc), HS J z ad n (va_up ce k (.inr (ci, fs.set j v))) s H1 locs1 → W p l e R s m args below meth c H1 locs1 cells slots Q (F0 m (pc + 3) ls rest)) : W p l e R s m args below meth c H locs cells slots Q (F0 m pc ls (v :: .ref (ad k) :: rest)) := by
  obtain ⟨hx, hb, hml, hown, hts⟩ := X
  obtain ⟨hK, hP, hD, hS, hz⟩ := h
  refine va_putF hx hb hts hin ty0 hty hnm hown hK hP hD hS k (by rw [wl_get hk, he]) hc j hj (hts _ hlink) (fun _ h9 => h9) hfin hinit hdecl (hty j hj) hn hfit hl hdg (fun H1 locs1 hP1 hD1 hS1 => ?_)
  rw [wl_set hk] at hP1 hD1
  exact kk H1 locs1 ⟨hK, hP1, hD1, hS1, hz⟩
theorem rw_ild (X : Cx p c cc s m own args nL) (h : HS J z ad n ce s H locs) (k : Nat) (hk : k < n) {N : Nat} {f : Nat → Int32} (he : ce k = .inl (J.2.1, N, .inl f)) {i : Int32} (j : Nat) (hi : i = nI j) (hj : j < N) (hN : N < 2 ^ 31) (hdg : decode cc pc = .ok (.iaload, 1))
    (kk : W p l e R s m args below meth c H locs cells slots Q (F0 m (pc + 1) ls (.int (f j) :: rest))) : W p l e R s m args below meth c H locs cells slots Q (F0 m pc ls (.int i :: .ref (ad k) :: rest)) := by
  obtain ⟨hx, hb, hml, hown, hts⟩ := X
  obtain ⟨hK, hP, hD, hS, hz⟩ := h
  subst hi
  refine va_iald hx hb hK hP k 0 (by rw [wl_get hk, he]) rfl (vp_in_nI hj hN) hdg ?_
  rw [nI_clamp (Nat.lt_trans hj hN)]
  exact kk
theorem rw_cld (X : Cx p c cc s m own args nL) (h : HS J z ad n ce s H locs) (k : Nat) (hk : k < n) {N : Nat} {f : Nat → Int32} (he : ce k = .inl (J.2.2.1, N, .inl f)) {i : Int32} (j : Nat) (hi : i = nI j) (hj : j < N) (hN : N < 2 ^ 31) (hdg : decode cc pc = .ok (.caload, 1))
    (kk : W p l e R s m args below meth c H locs cells slots Q (F0 m (pc + 1) ls (.int (f j) :: rest))) : W p l e R s m args below meth c H locs cells slots Q (F0 m pc ls (.int i :: .ref (ad k) :: rest)) := by
  obtain ⟨hx, hb, hml, hown, hts⟩ := X
  obtain ⟨hK, hP, hD, hS, hz⟩ := h
  subst hi
  refine va_cald hx hb hK hP k 1 (by rw [wl_get hk, he]) rfl (vp_in_nI hj hN) hdg ?_
  rw [nI_clamp (Nat.lt_trans hj hN)]
  exact kk
theorem rw_ist (X : Cx p c cc s m own args nL) (h : HS J z ad n ce s H locs) (k : Nat) (hk : k < n) {N : Nat} {f : Nat → Int32} (he : ce k = .inl (J.2.1, N, .inl f)) {i x : Int32} (j : Nat) (hi : i = nI j) (hj : j < N) (hN : N < 2 ^ 31) (hdg : decode cc pc = .ok (.iastore, 1))
    (kk : ∀ (H1 : Heap) (locs1 : List Loc), HS J z ad n (va_up ce k (.inl (J.2.1, N, .inl (upd f j x)))) s H1 locs1 → W p l e R s m args below meth c H1 locs1 cells slots Q (F0 m (pc + 1) ls rest)) : W p l e R s m args below meth c H locs cells slots Q (F0 m pc ls (.int x :: .int i :: .ref (ad k) :: rest)) := by
  obtain ⟨hx, hb, hml, hown, hts⟩ := X
  obtain ⟨hK, hP, hD, hS, hz⟩ := h
  subst hi
  refine va_iast hx hb hK hP hD hS k 0 (by rw [wl_get hk, he]) rfl (vp_in_nI hj hN) hdg (fun H1 locs1 hP1 hD1 hS1 => ?_)
  rw [wl_set hk, nI_clamp (Nat.lt_trans hj hN)] at hP1 hD1
  exact kk H1 locs1 ⟨hK, hP1, hD1, hS1, hz⟩
theorem rw_cst (X : Cx p c cc s m own args nL) (h : HS J z ad n ce s H locs) (k : Nat) (hk : k < n) {N : Nat} {f : Nat → Int32} (he : ce k = .inl (J.2.2.1, N, .inl f)) {i x : Int32} (j : Nat) (hi : i = nI j) (hj : j < N) (hN : N < 2 ^ 31) (hdg : decode cc pc = .ok (.castore, 1))
    (kk : ∀ (H1 : Heap) (locs1 : List Loc), HS J z ad n (va_up ce k (.inl (J.2.2.1, N, .inl (upd f j (vp_nar .char x))))) s H1 locs1 → W p l e R s m args below meth c H1 locs1 cells slots Q (F0 m (pc + 1) ls rest)) : W p l e R s m args below meth c H locs cells slots Q (F0 m pc ls (.int x :: .int i :: .ref (ad k) :: rest)) := by
  obtain ⟨hx, hb, hml, hown, hts⟩ := X
  obtain ⟨hK, hP, hD, hS, hz⟩ := h
  subst hi
  refine va_cast hx hb hK hP hD hS k 1 (by rw [wl_get hk, he]) rfl (vp_in_nI hj hN) hdg (fun H1 locs1 hP1 hD1 hS1 => ?_)
  rw [wl_set hk, nI_clamp (Nat.lt_trans hj hN)] at hP1 hD1
  exact kk H1 locs1 ⟨hK, hP1, hD1, hS1, hz⟩
theorem rw_ald (X : Cx p c cc s m own args nL) (h : HS J z ad n ce s H locs) (k : Nat) (hk : k < n) {N : Nat} {f : Nat → Option Nat} (he : ce k = .inl (J.2.2.2, N, .inr (.inr (.inr (.inr f))))) {i : Int32} (j : Nat) (hi : i = nI j) (hj : j < N) (hN : N < 2 ^ 31) {a : Nat} (hf : f j = some a) (hdg : decode cc pc = .ok (.aaload, 1))
    (kk : W p l e R s m args below meth c H locs cells slots Q (F0 m (pc + 1) ls (.ref a :: rest))) : W p l e R s m args below meth c H locs cells slots Q (F0 m pc ls (.int i :: .ref (ad k) :: rest)) := by
  obtain ⟨hx, hb, hml, hown, hts⟩ := X
  obtain ⟨hK, hP, hD, hS, hz⟩ := h
  subst hi
  refine va_aldq hx hb hK hP k 2 (C := RX5) (by rw [wl_get hk, he]) rfl (vp_in_nI hj hN) hdg ?_
  rw [nI_clamp (Nat.lt_trans hj hN), hf]
  exact kk
/-- the array copy of ints between two arrays of the world -/
theorem rw_cpy (X : Cx p c cc s m own args nL) (hls : ls.size = nL) (h : HS J z ad n ce s H locs) {index : Nat} (hlink : Cond.methodLink own index arraycopyName ∈ ws0) (hnat : Cond.native arraycopyName ∈ ws0) (hstat : Cond.static arraycopyName ∈ ws0) (hini : Cond.initialized "java/lang/System" ∈ ws0) (k0 k1 : Nat) (hk0 : k0 < n) (hk1 : k1 < n) {N : Nat} {f g : Nat → Int32} (he0 : ce k0 = .inl (J.2.1, N, .inl f)) (he1 : ce k1 = .inl (J.2.1, N, .inl g)) {x : Int32} (hx : x = nI N) (hN : N < 2 ^ 31) (hframes : 1 ≤ R.frames) (hlocals : (rest.map fun v => v.category).sum + (nativeFrameWords "java/lang/System" "arraycopy" 5 + 11) ≤ R.locals) (hdg : decode cc pc = .ok (.invokestatic index, 3))
    (kk : ∀ (H1 : Heap) (locs1 : List Loc), HS J z ad n (va_up ce k1 (.inl (J.2.1, N, .inl (fun j => if j < N then f j else g j)))) s H1 locs1 → W p l e R s m args below meth c H1 locs1 cells slots Q (F0 m (pc + 3) ls rest)) : W p l e R s m args below meth c H locs cells slots Q (F0 m pc ls (.int x :: .int 0 :: .ref (ad k1) :: .int 0 :: .ref (ad k0) :: rest)) := by
  obtain ⟨hx0, hb, hml, hown, hts⟩ := X
  obtain ⟨hK, hP, hD, hS, hz⟩ := h
  subst hx
  have e0 : (0 : Int32).toNatClampNeg = 0 := rfl
  refine va_copyi hx0 hb (hml.trans hls.symm) hown (hts _ hlink) (hts _ hnat) (hts _ hstat) (hts _ hini) hK hP hD hS k0 k1 0 0 (ty := .int) (by rw [wl_get hk0, he0]) (by rw [wl_get hk1, he1]) rfl rfl rfl (by decide) (by decide) (nI_pos hN) (by rw [nI_clamp hN, e0]; omega) (by rw [nI_clamp hN, e0]; omega) (fun i _ => rfl) hframes hlocals hdg (fun H1 locs1 hP1 hD1 hS1 => ?_)
  rw [wl_set hk1, nI_clamp hN, e0] at hP1 hD1
  have e1 : va_cpy f g 0 0 N = (fun j => if j < N then f j else g j) := by
    funext j
    simp [va_cpy]
  rw [e1] at hP1 hD1
  exact kk H1 locs1 ⟨hK, hP1, hD1, hS1, hz⟩
end BASE
end
section
/-! THE SHAPE: 215 cells. 0 the class's object; 1.., 26.., 51.., 76.. its four states (25 cells each: the state, its swarm with five rows, its laws with three, its petitions with six, its refusals with four, settings, verdicts); 101 the history, 102 its ring, 103.., 128.., 153.., 178.. the ring's states; 203 the text with six rows; 210 the reference's object with s, text, order, reasons. All that changes is ints: G k j, the j-th of cell k. -/
abbrev GG : Type := Nat → Nat → Int32
def stC (J : JJ) (ad : Nat → Nat) (b c : Nat) (g : Nat → Int32) : va_E := match c with
  | 0 => .inr (5, [.ref (ad (b + 1)), .ref (ad (b + 7)), .ref (ad (b + 11)), .ref (ad (b + 18)), .ref (ad (b + 23)), .int (g 5), .int (g 6), .int (g 7), .int (g 8), .ref (ad (b + 24))])
  | 1 => .inr (6, [.int (g 0), .ref (ad (b + 2)), .ref (ad (b + 3)), .ref (ad (b + 4)), .ref (ad (b + 5)), .ref (ad (b + 6))])
  | 7 => .inr (1, [.ref (ad (b + 8)), .ref (ad (b + 9)), .ref (ad (b + 10))])
  | 8 => .inl (J.2.1, 140, .inl g)
  | 9 => .inl (J.2.1, 140, .inl g)
  | 10 => .inl (J.2.1, 140, .inl g)
  | 11 => .inr (3, [.int (g 0), .ref (ad (b + 12)), .ref (ad (b + 13)), .ref (ad (b + 14)), .ref (ad (b + 15)), .ref (ad (b + 16)), .ref (ad (b + 17))])
  | 18 => .inr (4, [.int (g 0), .ref (ad (b + 19)), .ref (ad (b + 20)), .ref (ad (b + 21)), .ref (ad (b + 22))])
  | 23 => .inl (J.2.1, 2, .inl g)
  | _ => .inl (J.2.1, 12, .inl g)
def ringF (ad : Nat → Nat) : Nat → Option Nat := va_up (va_up (va_up (va_up (fun _ => none) 0 (some (ad 103))) 1 (some (ad 128))) 2 (some (ad 153))) 3 (some (ad 178))
def txC (J : JJ) (ad : Nat → Nat) (c : Nat) (g : Nat → Int32) : va_E := match c with
  | 0 => .inr (2, [.ref (ad 204), .int (g 1), .int (g 2), .int (g 3), .ref (ad 205), .ref (ad 206), .ref (ad 207), .ref (ad 208), .ref (ad 209)])
  | 1 => .inl (J.2.2.1, 60, .inl g)
  | 7 => .inr (8, [.ref (ad 211), .int (g 1), .int (g 2), .ref (ad 212), .int (g 4), .int (g 5), .int (g 6), .ref (ad 213), .ref (ad 214), .int (g 9), .int (g 10), .int (g 11), .int (g 12), .int (g 13), .int (g 14)])
  | 8 => .inl (J.2.1, 4896, .inl g)
  | 9 => .inl (J.2.1, 60, .inl g)
  | 10 => .inl (J.2.1, 12, .inl g)
  | 11 => .inl (J.2.1, 12, .inl g)
  | _ => .inl (J.2.1, 20, .inl g)
def shC (J : JJ) (ad : Nat → Nat) (k : Nat) (g : Nat → Int32) : va_E :=
  if k = 0 then .inr (7, [.ref (ad 1), .ref (ad 26), .ref (ad 51), .ref (ad 76), .int (g 4), .ref (ad 101), .ref (ad 203), .int (g 7), .int (g 8)])
  else if k < 101 then stC J ad (1 + 25 * ((k - 1) / 25)) ((k - 1) % 25) g
  else if k = 101 then .inr (0, [.ref (ad 102), .int (g 1), .int (g 2)])
  else if k = 102 then .inl (J.2.2.2, 4, .inr (.inr (.inr (.inr (ringF ad)))))
  else if k < 203 then stC J ad (103 + 25 * ((k - 103) / 25)) ((k - 103) % 25) g
  else txC J ad (k - 203) g
def shp (J : JJ) (ad : Nat → Nat) (G : GG) (k : Nat) : va_E := shC J ad k (G k)
def u1 (G : GG) (k : Nat) (g : Nat → Int32) : GG := fun a => if a = k then g else G a
theorem u1_s (G : GG) (k : Nat) (g : Nat → Int32) : u1 G k g k = g := by simp [u1]
theorem u1_n {G : GG} {k a : Nat} {g : Nat → Int32} (h : a ≠ k) : u1 G k g a = G a := by simp [u1, h]
theorem shp_u {J : JJ} {ad : Nat → Nat} {G : GG} {k : Nat} {e : va_E} {g : Nat → Int32} (he : e = shC J ad k g) : va_up (shp J ad G) k e = shp J ad (u1 G k g) := by
  funext a
  by_cases h : a = k
  · subst h
    simp [va_up, shp, u1, he]
  · simp [va_up, shp, u1, h]
/-- the first cell of a state -/
def IsB (b : Nat) : Prop := (b < 101 ∧ b % 25 = 1) ∨ (103 ≤ b ∧ b < 203 ∧ b % 25 = 3)
theorem IsB.lt {b c : Nat} (h : IsB b) (hc : c < 25) : b + c < 215 := by unfold IsB at h; omega
theorem IsB.sh {b c : Nat} (h : IsB b) (hc : c < 25) (J : JJ) (ad : Nat → Nat) (g : Nat → Int32) : shC J ad (b + c) g = stC J ad b c g := by
  unfold shC
  rcases h with ⟨h1, h2⟩ | ⟨h1, h2, h3⟩
  · rw [if_neg (by omega), if_pos (by omega), show 1 + 25 * ((b + c - 1) / 25) = b by omega, show (b + c - 1) % 25 = c by omega]
  · rw [if_neg (by omega), if_neg (by omega), if_neg (by omega), if_neg (by omega), if_pos (by omega), show 103 + 25 * ((b + c - 103) / 25) = b by omega, show (b + c - 103) % 25 = c by omega]
theorem IsB.at {b c : Nat} (h : IsB b) (hc : c < 25) (J : JJ) (ad : Nat → Nat) (G : GG) : shp J ad G (b + c) = stC J ad b c (G (b + c)) := h.sh hc J ad _
theorem isB_1 : IsB 1 := Or.inl ⟨by decide, by decide⟩
theorem isB_26 : IsB 26 := Or.inl ⟨by decide, by decide⟩
theorem isB_51 : IsB 51 := Or.inl ⟨by decide, by decide⟩
theorem isB_76 : IsB 76 := Or.inl ⟨by decide, by decide⟩
theorem isB_103 : IsB 103 := Or.inr ⟨by decide, by decide, by decide⟩
theorem isB_128 : IsB 128 := Or.inr ⟨by decide, by decide, by decide⟩
theorem isB_153 : IsB 153 := Or.inr ⟨by decide, by decide, by decide⟩
theorem isB_178 : IsB 178 := Or.inr ⟨by decide, by decide, by decide⟩
abbrev HG (J : JJ) (z : Nat) (ad : Nat → Nat) (s : State) (G : GG) (H : Heap) (locs : List Loc) : Prop := HS J z ad 215 (shp J ad G) s H locs
abbrev HV (J : JJ) (z : Nat) (ad : Nat → Nat) (G : GG) (U : State) : Prop := HU J z ad 215 (shp J ad G) U
/-- contracts: a method that answers an int (or boolean), one that answers nothing -/
def MI (l : Launch) (J : JJ) (z : Nat) (ad : Nat → Nat) (y : MethodName) (cc : ByteArray) (mx : Nat) (ty : FieldType) (d : Nat) (av : List Value) (G : GG) (post : Int32 → GG → Prop) : Prop :=
  Met l y (wsY y cc mx (some ty)) (rmD d 0 0) (va_Pc av (HV J z ad G)) (va_Qi post (HV J z ad) (fun q => z ≤ q)) 0 0 (fun q => z ≤ q)
def MV (l : Launch) (J : JJ) (z : Nat) (ad : Nat → Nat) (y : MethodName) (cc : ByteArray) (mx : Nat) (d : Nat) (av : List Value) (G : GG) (post : GG → Prop) : Prop :=
  Met l y (wsY y cc mx none) (rmD d 0 0) (va_Pc av (HV J z ad G)) (va_Qv post (HV J z ad) (fun q => z ≤ q)) 0 0 (fun q => z ≤ q)
def QI (J : JJ) (z : Nat) (ad : Nat → Nat) (below : List Frame) (args : Array Value) (s : State) (post : Int32 → GG → Prop) : State → Prop := MQ below (va_Qi post (HV J z ad) (fun q => z ≤ q)) args s 0 0 (fun q => z ≤ q)
def QV (J : JJ) (z : Nat) (ad : Nat → Nat) (below : List Frame) (args : Array Value) (s : State) (post : GG → Prop) : State → Prop := MQ below (va_Qv post (HV J z ad) (fun q => z ≤ q)) args s 0 0 (fun q => z ≤ q)
section SHAPE
variable {p : Program} {l : Launch} {e : Env} {R : Room} {s : State} {m : MethodId} {args : Array Value} {below : List Frame} {meth : Method} {c : Code} {H : Heap} {locs : List Loc} {cells slots : Nat} {Q : State → Prop}
variable {cc : ByteArray} {pc : Nat} {ls : Array Slot} {rest : List Value} {J : JJ} {z nL : Nat} {ad : Nat → Nat} {G : GG} {own : String}
theorem HV.blind {av : List Value} {n : Nat} {ce : Nat → va_E} : FrameBlind (va_Pc av (HU J z ad n ce)) := fun a U g mk q => by
  obtain ⟨q0, q1, q2, q3, q4⟩ := q
  exact ⟨q0, va_K.moved (u := U) (U := U.calling g mk a) (Vm.Alike.refl U.vm) q1, q2, q3, q4⟩
theorem HS.toU {n : Nat} {ce : Nat → va_E} (h : HS J z ad n ce s H locs) {U : State} (hU : U.heap = H) (hW : s.vm.Alike U.vm) : HU J z ad n ce U := by
  obtain ⟨hK, hP, hD, hS, hz⟩ := h
  exact ⟨va_K.moved hW hK, by rw [hU]; exact hP, hD, by rw [hU]; exact Nat.le_trans hz hS.1⟩
theorem HS.ofU {n : Nat} {ce : Nat → va_E} {t : State} {H1 : Heap} {locs1 : List Loc} (h : HU J z ad n ce t) (ht : t.heap = H1) (hvm : s.vm.Alike t.vm) (hS : va_S (fun q => z ≤ q) s.heap H1 locs1) (hz : z ≤ s.heap.size) : HS J z ad n ce s H1 locs1 := by
  obtain ⟨hK, hP, hD, -⟩ := h
  exact ⟨va_K.moved hvm.symm hK, by rw [← ht]; exact hP, hD, hS, hz⟩
theorem HS.of0 {n : Nat} {ce : Nat → va_E} (h : HU J z ad n ce s) : HS J z ad n ce s s.heap [] := by
  obtain ⟨hK, hP, hD, hz⟩ := h
  exact ⟨hK, hP, hD, va_S.rf, hz⟩
/-- a contract out of a walk -/
theorem MI.walk {y : MethodName} {mx : Nat} {ty : FieldType} {d : Nat} {av : List Value} {post : Int32 → GG → Prop} (hy : plainName y.cls = true) (hlen : (lg_sl av).length ≤ mx)
    (body : ∀ (p : Program) (e : Env) (s : State) (m : MethodId) (below : List Frame) (meth : Method) (c : Code) (ls : Array Slot), Cx p c cc s m y.cls av.toArray mx → meth.sig.returnType = some ty → meth.locks = false → HG J z ad s G s.heap [] → lv_has ls mx (lv_args 0 av) →
      W p l e (rmD d 0 0) s m av.toArray below meth c s.heap [] 0 0 (QI J z ad below av.toArray s post) (F0 m 0 ls [])) : MI l J z ad y cc mx ty d av G post := by
  refine Met.ofW (cc := cc) (maxL := mx) (ret := some ty) hy rfl ?_
  intro p e s m args below meth c s₁ B hml hv
  obtain ⟨rfl, hU⟩ := hv
  have hts := atoms_spec (ws := wsY y cc mx (some ty)) B.pre
  have hl := lv_entry av (n := mx) hlen
  rw [lg_entry_eq]
  exact body p e s m below meth c _ ⟨B.exec, B.bytes, hml, findClass_of_methodNamed B.named, fun w hw => hts w (List.mem_cons_of_mem _ hw)⟩ B.returns B.notSynchronized (HS.of0 hU) hl
theorem MV.walk {y : MethodName} {mx : Nat} {d : Nat} {av : List Value} {post : GG → Prop} (hy : plainName y.cls = true) (hlen : (lg_sl av).length ≤ mx)
    (body : ∀ (p : Program) (e : Env) (s : State) (m : MethodId) (below : List Frame) (meth : Method) (c : Code) (ls : Array Slot), Cx p c cc s m y.cls av.toArray mx → meth.sig.returnType = none → meth.locks = false → HG J z ad s G s.heap [] → lv_has ls mx (lv_args 0 av) →
      W p l e (rmD d 0 0) s m av.toArray below meth c s.heap [] 0 0 (QV J z ad below av.toArray s post) (F0 m 0 ls [])) : MV l J z ad y cc mx d av G post := by
  refine Met.ofW (cc := cc) (maxL := mx) (ret := none) hy rfl ?_
  intro p e s m args below meth c s₁ B hml hv
  obtain ⟨rfl, hU⟩ := hv
  have hts := atoms_spec (ws := wsY y cc mx none) B.pre
  have hl := lv_entry av (n := mx) hlen
  rw [lg_entry_eq]
  exact body p e s m below meth c _ ⟨B.exec, B.bytes, hml, findClass_of_methodNamed B.named, fun w hw => hts w (List.mem_cons_of_mem _ hw)⟩ B.returns B.notSynchronized (HS.of0 hU) hl
/-- the ends -/
theorem rg_ret (X : Cx p c cc s m own args nL) (hr : meth.sig.returnType = some .int) (hlk : meth.locks = false) (h : HG J z ad s G H locs) {v : Int32} {post : Int32 → GG → Prop} (hp : post v G) (hdg : decode cc pc = .ok (.ireturn, 1)) : W p l e R s m args below meth c H locs 0 0 (QI J z ad below args s post) (F0 m pc ls [.int v]) :=
  W.iret X.1 X.2.1 hr (fun t ht hW => ⟨⟨v, G, rfl, hp, h.toU ht hW.alike⟩, h.2.2.2.1.F ht⟩) h.2.2.2.1.2.2 hdg hlk
theorem rg_zret (X : Cx p c cc s m own args nL) (hr : meth.sig.returnType = some .boolean) (hlk : meth.locks = false) (h : HG J z ad s G H locs) {v : Int32} {post : Int32 → GG → Prop} (hv : narrow .boolean (.int v) = .int v) (hp : post v G) (hdg : decode cc pc = .ok (.ireturn, 1)) : W p l e R s m args below meth c H locs 0 0 (QI J z ad below args s post) (F0 m pc ls [.int v]) :=
  W.zret X.1 X.2.1 hr hv (fun t ht hW => ⟨⟨v, G, rfl, hp, h.toU ht hW.alike⟩, h.2.2.2.1.F ht⟩) h.2.2.2.1.2.2 hdg hlk
theorem rg_vret (X : Cx p c cc s m own args nL) (hr : meth.sig.returnType = none) (hlk : meth.locks = false) (h : HG J z ad s G H locs) {post : GG → Prop} (hp : post G) (hdg : decode cc pc = .ok (.return_, 1)) : W p l e R s m args below meth c H locs 0 0 (QV J z ad below args s post) (F0 m pc ls []) :=
  W.vret X.1 X.2.1 hr (fun t ht hW => ⟨⟨G, rfl, hp, h.toU ht hW.alike⟩, h.2.2.2.1.F ht⟩) h.2.2.2.1.2.2 hdg hlk
/-- the calls -/
theorem rg_civ (X : Cx p c cc s m own args nL) (hl : ls.size = nL) (h : HG J z ad s G H locs) {y : MethodName} {bytes : ByteArray} {mx : Nat} {ty : FieldType} {d k : Nat} {As : List Value} {post : Int32 → GG → Prop} (hM : MI l J z ad y bytes mx ty d (.ref (ad k) :: As) G post) {index : Nat} (w1 : Cond.methodLink own index y ∈ ws0) (w2 : Cond.instanceMethod y ∈ ws0) (w3 : Cond.selects y.cls y y ∈ ws0) (w4 : Cond.initialized y.cls ∈ ws0) (w5 : Cond.code y bytes mx (some ty) ∈ ws0)
    (hd : y.cls = y.cls ∧ y.cls ≠ "java/lang/invoke/MethodHandle" ∧ y.cls ≠ "java/lang/invoke/VarHandle" ∧ (parseMethodDescriptor y.desc).map (fun d => d.parameters.length) = some As.length) (hk : k < 215) {ci : Nat} {fs : List Value} {q : vw_C} (he : shC J ad k (G k) = .inr (ci, fs)) (hc : vwCl[ci]? = some q) (hq : q.1 = y.cls) (hR : d + 1 ≤ R.frames ∧ 8 + (mx + 11) + 30 * d ≤ R.locals) (hf : cells + 0 ≤ R.cells ∧ slots + 0 ≤ R.slots) {st : List Value} (hst : st = As.reverse ++ .ref (ad k) :: rest) (hrest : (rest.map fun v => v.category).sum ≤ 8) (hdg : decode cc pc = .ok (.invokevirtual index, 3))
    (kk : ∀ (r : Int32) (G1 : GG) (H1 : Heap) (locs1 : List Loc), post r G1 → HG J z ad s G1 H1 locs1 → W p l e R s m args below meth c H1 locs1 cells slots Q (F0 m (pc + 3) ls (.int r :: rest))) : W p l e R s m args below meth c H locs cells slots Q (F0 m pc ls st) := by
  have hg : GoodIn ws0 (wsV own index y.cls y (wsY y bytes mx (some ty))) := by
    intro w hw
    have hin : w ∈ ws0 := by
      simp only [wsV, wsY, List.mem_append, List.mem_cons, List.not_mem_nil, or_false] at hw
      rcases hw with (rfl | rfl | rfl | rfl) | rfl | hw
      · exact w1
      · exact w2
      · exact w3
      · exact w4
      · exact w5
      · exact hw
    exact ws0_self w hin
  have hrecv : ∃ cell : Cell, H[ad k]? = some cell ∧ cell.vm.isStatics = false ∧ s.vm.findClass y.cls = some cell.cls := by
    have := va_recv (q0 := k) h.1 h.2.1 hc (by rw [wl_get hk]; exact congrArg (fun e => some (ad k, e)) he)
    rw [hq] at this
    exact this
  refine va_calli (st0 := st) (va_runV (As := As) (rest := rest) X hM (cwV As.length X.2.2.2.2 hg rfl rfl rfl hd hR) ⟨HV.blind, hrecv, fun U hU hW => ⟨rfl, h.toU hU hW.alike⟩⟩ rfl rfl hl hst (lv_room hrest) hdg hf) h.2.2.2.1 (fun _ _ h => h) (fun _ h => h) (fun r u t H1 locs1 ht hvm hp hB _ _ hS => ?_)
  exact kk r u H1 locs1 hp (HS.ofU hB ht hvm hS h.2.2.2.2)
theorem rg_cvv (X : Cx p c cc s m own args nL) (hl : ls.size = nL) (h : HG J z ad s G H locs) {y : MethodName} {bytes : ByteArray} {mx : Nat} {d k : Nat} {As : List Value} {post : GG → Prop} (hM : MV l J z ad y bytes mx d (.ref (ad k) :: As) G post) {index : Nat} (w1 : Cond.methodLink own index y ∈ ws0) (w2 : Cond.instanceMethod y ∈ ws0) (w3 : Cond.selects y.cls y y ∈ ws0) (w4 : Cond.initialized y.cls ∈ ws0) (w5 : Cond.code y bytes mx none ∈ ws0)
    (hd : y.cls = y.cls ∧ y.cls ≠ "java/lang/invoke/MethodHandle" ∧ y.cls ≠ "java/lang/invoke/VarHandle" ∧ (parseMethodDescriptor y.desc).map (fun d => d.parameters.length) = some As.length) (hk : k < 215) {ci : Nat} {fs : List Value} {q : vw_C} (he : shC J ad k (G k) = .inr (ci, fs)) (hc : vwCl[ci]? = some q) (hq : q.1 = y.cls) (hR : d + 1 ≤ R.frames ∧ 8 + (mx + 11) + 30 * d ≤ R.locals) (hf : cells + 0 ≤ R.cells ∧ slots + 0 ≤ R.slots) {st : List Value} (hst : st = As.reverse ++ .ref (ad k) :: rest) (hrest : (rest.map fun v => v.category).sum ≤ 8) (hdg : decode cc pc = .ok (.invokevirtual index, 3))
    (kk : ∀ (G1 : GG) (H1 : Heap) (locs1 : List Loc), post G1 → HG J z ad s G1 H1 locs1 → W p l e R s m args below meth c H1 locs1 cells slots Q (F0 m (pc + 3) ls rest)) : W p l e R s m args below meth c H locs cells slots Q (F0 m pc ls st) := by
  have hg : GoodIn ws0 (wsV own index y.cls y (wsY y bytes mx none)) := by
    intro w hw
    have hin : w ∈ ws0 := by
      simp only [wsV, wsY, List.mem_append, List.mem_cons, List.not_mem_nil, or_false] at hw
      rcases hw with (rfl | rfl | rfl | rfl) | rfl | hw
      · exact w1
      · exact w2
      · exact w3
      · exact w4
      · exact w5
      · exact hw
    exact ws0_self w hin
  have hrecv : ∃ cell : Cell, H[ad k]? = some cell ∧ cell.vm.isStatics = false ∧ s.vm.findClass y.cls = some cell.cls := by
    have := va_recv (q0 := k) h.1 h.2.1 hc (by rw [wl_get hk]; exact congrArg (fun e => some (ad k, e)) he)
    rw [hq] at this
    exact this
  refine va_callv (st0 := st) (va_runV (As := As) (rest := rest) X hM (cwV As.length X.2.2.2.2 hg rfl rfl rfl hd hR) ⟨HV.blind, hrecv, fun U hU hW => ⟨rfl, h.toU hU hW.alike⟩⟩ rfl rfl hl hst (lv_room hrest) hdg hf) h.2.2.2.1 (fun _ _ h => h) (fun _ h => h) (fun u t H1 locs1 ht hvm hp hB _ _ hS => ?_)
  exact kk u H1 locs1 hp (HS.ofU hB ht hvm hS h.2.2.2.2)
theorem rg_cis (X : Cx p c cc s m own args nL) (hl : ls.size = nL) (h : HG J z ad s G H locs) {y : MethodName} {bytes : ByteArray} {mx : Nat} {ty : FieldType} {d : Nat} {As : List Value} {post : Int32 → GG → Prop} (hM : MI l J z ad y bytes mx ty d As G post) {index : Nat} (w1 : Cond.methodLink own index y ∈ ws0) (w2 : Cond.static y ∈ ws0) (w4 : Cond.initialized own ∈ ws0) (w5 : Cond.code y bytes mx (some ty) ∈ ws0)
    (hd : y.cls = own ∧ y.cls ≠ "java/lang/invoke/MethodHandle" ∧ y.cls ≠ "java/lang/invoke/VarHandle" ∧ (parseMethodDescriptor y.desc).map (fun d => d.parameters.length) = some As.length) (hR : d + 1 ≤ R.frames ∧ 8 + (mx + 11) + 30 * d ≤ R.locals) (hf : cells + 0 ≤ R.cells ∧ slots + 0 ≤ R.slots) {st : List Value} (hst : st = As.reverse ++ rest) (hrest : (rest.map fun v => v.category).sum ≤ 8) (hdg : decode cc pc = .ok (.invokestatic index, 3))
    (kk : ∀ (r : Int32) (G1 : GG) (H1 : Heap) (locs1 : List Loc), post r G1 → HG J z ad s G1 H1 locs1 → W p l e R s m args below meth c H1 locs1 cells slots Q (F0 m (pc + 3) ls (.int r :: rest))) : W p l e R s m args below meth c H locs cells slots Q (F0 m pc ls st) := by
  have hg : GoodIn ws0 (wsS own index y (wsY y bytes mx (some ty))) := by
    intro w hw
    have hin : w ∈ ws0 := by
      simp only [wsS, wsY, List.mem_append, List.mem_cons, List.not_mem_nil, or_false] at hw
      rcases hw with (rfl | rfl | rfl) | rfl | hw
      · exact w1
      · exact w2
      · exact w4
      · exact w5
      · exact hw
    exact ws0_self w hin
  refine va_calli (st0 := st) (va_runS (As := As) (rest := rest) X hM (cwS As.length X.2.2.2.2 hg rfl rfl rfl hd hR) ⟨HV.blind, fun U hU hW => ⟨rfl, h.toU hU hW.alike⟩⟩ rfl rfl hl hst (lv_room hrest) hdg hf) h.2.2.2.1 (fun _ _ h => h) (fun _ h => h) (fun r u t H1 locs1 ht hvm hp hB _ _ hS => ?_)
  exact kk r u H1 locs1 hp (HS.ofU hB ht hvm hS h.2.2.2.2)
/-- a field that is an int, or a reference, of an object of the world -/
theorem rg_get (X : Cx p c cc s m own args nL) (h : HG J z ad s G H locs) {C : String} {T : u_T} {N ci index : Nat} (hin : ∀ w ∈ u_ws C T N, w ∈ ws0) (hc : vwCl[ci]? = some (C, T, N)) (j : Nat) (hj : j < N) (hlink : Cond.fieldLink own index (T j).1 (T j).2.1 (T j).2.2.1 ∈ ws0) (k : Nat) (hk : k < 215) {F : (Nat → Int32) → List Value} (hO : ∀ g, shC J ad k g = .inr (ci, F g)) {v : Value} (hv : (F (G k))[j]? = some v) (hdg : decode cc pc = .ok (.getfield index, 3))
    (kk : W p l e R s m args below meth c H locs cells slots Q (F0 m (pc + 3) ls (v :: rest))) : W p l e R s m args below meth c H locs cells slots Q (F0 m pc ls (.ref (ad k) :: rest)) :=
  rw_get X h hin hc j hj hlink k hk (hO (G k)) hv hdg kk
theorem rg_put (X : Cx p c cc s m own args nL) (h : HG J z ad s G H locs) {C : String} {T : u_T} {N ci index : Nat} (hin : ∀ w ∈ u_ws C T N, w ∈ ws0) (ty0 : Nat → FieldType) (hty : ∀ k, k < N → parseFieldDescriptor (T k).2.2.1 = some (ty0 k)) (hnm : ∀ a, a < N → ∀ b, b < N → a ≠ b → (T a).2.1 ≠ (T b).2.1) (hc : vwCl[ci]? = some (C, T, N)) (j : Nat) (hj : j < N) (hlink : Cond.fieldLink own index (T j).1 (T j).2.1 (T j).2.2.1 ∈ ws0) (hfin : (T j).2.2.2 = false) (k : Nat) (hk : k < 215) {F : (Nat → Int32) → List Value} (hO : ∀ g, shC J ad k g = .inr (ci, F g)) (hl : ∀ g, j < (F g).length) {v : Int32} (hF : ∀ g, (F g).set j (.int v) = F (upd g j v)) (hn : narrow (ty0 j) (.int v) = .int v) (hfit : fits (ty0 j) (.int v) = true) (hdg : decode cc pc = .ok (.putfield index, 3))
    (kk : ∀ (H1 : Heap) (locs1 : List Loc), HG J z ad s (u1 G k (upd (G k) j v)) H1 locs1 → W p l e R s m args below meth c H1 locs1 cells slots Q (F0 m (pc + 3) ls rest)) : W p l e R s m args below meth c H locs cells slots Q (F0 m pc ls (.int v :: .ref (ad k) :: rest)) := by
  refine rw_put X h hin ty0 hty hnm hc j hj hlink hfin k hk (hO (G k)) (hl _) hn hfit hdg (fun H1 locs1 h1 => kk H1 locs1 ?_)
  rw [shp_u (g := upd (G k) j v) (by rw [hO, hF])] at h1
  exact h1
theorem rg_ild (X : Cx p c cc s m own args nL) (h : HG J z ad s G H locs) (k : Nat) (hk : k < 215) {N : Nat} (hA : ∀ g, shC J ad k g = .inl (J.2.1, N, .inl g)) {i : Int32} (j : Nat) (hi : i = nI j) (hj : j < N) (hN : N < 2 ^ 31) (hdg : decode cc pc = .ok (.iaload, 1))
    (kk : W p l e R s m args below meth c H locs cells slots Q (F0 m (pc + 1) ls (.int (G k j) :: rest))) : W p l e R s m args below meth c H locs cells slots Q (F0 m pc ls (.int i :: .ref (ad k) :: rest)) :=
  rw_ild X h k hk (hA (G k)) j hi hj hN hdg kk
theorem rg_cld (X : Cx p c cc s m own args nL) (h : HG J z ad s G H locs) (k : Nat) (hk : k < 215) {N : Nat} (hA : ∀ g, shC J ad k g = .inl (J.2.2.1, N, .inl g)) {i : Int32} (j : Nat) (hi : i = nI j) (hj : j < N) (hN : N < 2 ^ 31) (hdg : decode cc pc = .ok (.caload, 1))
    (kk : W p l e R s m args below meth c H locs cells slots Q (F0 m (pc + 1) ls (.int (G k j) :: rest))) : W p l e R s m args below meth c H locs cells slots Q (F0 m pc ls (.int i :: .ref (ad k) :: rest)) :=
  rw_cld X h k hk (hA (G k)) j hi hj hN hdg kk
theorem rg_ist (X : Cx p c cc s m own args nL) (h : HG J z ad s G H locs) (k : Nat) (hk : k < 215) {N : Nat} (hA : ∀ g, shC J ad k g = .inl (J.2.1, N, .inl g)) {i x : Int32} (j : Nat) (hi : i = nI j) (hj : j < N) (hN : N < 2 ^ 31) (hdg : decode cc pc = .ok (.iastore, 1))
    (kk : ∀ (H1 : Heap) (locs1 : List Loc), HG J z ad s (u1 G k (upd (G k) j x)) H1 locs1 → W p l e R s m args below meth c H1 locs1 cells slots Q (F0 m (pc + 1) ls rest)) : W p l e R s m args below meth c H locs cells slots Q (F0 m pc ls (.int x :: .int i :: .ref (ad k) :: rest)) := by
  refine rw_ist X h k hk (hA (G k)) j hi hj hN hdg (fun H1 locs1 h1 => kk H1 locs1 ?_)
  rw [shp_u (g := upd (G k) j x) (by rw [hA])] at h1
  exact h1
theorem rg_cst (X : Cx p c cc s m own args nL) (h : HG J z ad s G H locs) (k : Nat) (hk : k < 215) {N : Nat} (hA : ∀ g, shC J ad k g = .inl (J.2.2.1, N, .inl g)) {i x : Int32} (j : Nat) (hi : i = nI j) (hj : j < N) (hN : N < 2 ^ 31) (hdg : decode cc pc = .ok (.castore, 1))
    (kk : ∀ (H1 : Heap) (locs1 : List Loc), HG J z ad s (u1 G k (upd (G k) j (vp_nar .char x))) H1 locs1 → W p l e R s m args below meth c H1 locs1 cells slots Q (F0 m (pc + 1) ls rest)) : W p l e R s m args below meth c H locs cells slots Q (F0 m pc ls (.int x :: .int i :: .ref (ad k) :: rest)) := by
  refine rw_cst X h k hk (hA (G k)) j hi hj hN hdg (fun H1 locs1 h1 => kk H1 locs1 ?_)
  rw [shp_u (g := upd (G k) j (vp_nar .char x)) (by rw [hA])] at h1
  exact h1
theorem rg_cpy (X : Cx p c cc s m own args nL) (hls : ls.size = nL) (h : HG J z ad s G H locs) {index : Nat} (hlink : Cond.methodLink own index arraycopyName ∈ ws0) (hnat : Cond.native arraycopyName ∈ ws0) (hstat : Cond.static arraycopyName ∈ ws0) (hini : Cond.initialized "java/lang/System" ∈ ws0) (k0 k1 : Nat) (hk0 : k0 < 215) (hk1 : k1 < 215) {N : Nat} (hA0 : ∀ g, shC J ad k0 g = .inl (J.2.1, N, .inl g)) (hA1 : ∀ g, shC J ad k1 g = .inl (J.2.1, N, .inl g)) {x : Int32} (hx : x = nI N) (hN : N < 2 ^ 31) (hframes : 1 ≤ R.frames) (hlocals : (rest.map fun v => v.category).sum + (nativeFrameWords "java/lang/System" "arraycopy" 5 + 11) ≤ R.locals) (hdg : decode cc pc = .ok (.invokestatic index, 3))
    (kk : ∀ (H1 : Heap) (locs1 : List Loc), HG J z ad s (u1 G k1 (fun j => if j < N then G k0 j else G k1 j)) H1 locs1 → W p l e R s m args below meth c H1 locs1 cells slots Q (F0 m (pc + 3) ls rest)) : W p l e R s m args below meth c H locs cells slots Q (F0 m pc ls (.int x :: .int 0 :: .ref (ad k1) :: .int 0 :: .ref (ad k0) :: rest)) := by
  refine rw_cpy X hls h hlink hnat hstat hini k0 k1 hk0 hk1 (hA0 (G k0)) (hA1 (G k1)) hx hN hframes hlocals hdg (fun H1 locs1 h1 => kk H1 locs1 ?_)
  rw [shp_u (g := fun j => if j < N then G k0 j else G k1 j) (by rw [hA1])] at h1
  exact h1
/-- another form of the number on top -/
theorem lv_as {x y : Int32} (hxy : x = y) (k : W p l e R s m args below meth c H locs cells slots Q (F0 m pc ls (.int y :: rest))) : W p l e R s m args below meth c H locs cells slots Q (F0 m pc ls (.int x :: rest)) := by
  subst hxy
  exact k
end SHAPE
end
