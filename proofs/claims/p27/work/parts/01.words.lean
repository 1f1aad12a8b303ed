/-! the tables' words that go along to every method, and each word that a walk uses, by its place -/
def ws0 : List Cond := lw_tbl.filter goodWord
theorem ws0_tbl : ∀ w ∈ ws0, w ∈ lw_tbl := fun w h => (List.mem_filter.mp h).1
theorem ws0_self : GoodIn ws0 ws0 := fun w h => ⟨h, good_of_word (List.mem_filter.mp h).2⟩
theorem ws0_of {w : Cond} (h : w ∈ lw_tbl) (g : goodWord w = true) : w ∈ ws0 := List.mem_filter.mpr ⟨h, g⟩
theorem ws0_p {y : MethodName} {n : Nat} (h : (y, n) ∈ lw_privs) : Cond.selects y.cls y y ∈ ws0 := ws0_of (List.mem_append_left _ (List.mem_map.mpr ⟨(y, n), h, rfl⟩)) rfl
theorem ws0_1 {w : Cond} (h : w ∈ tables_1_1) (g : goodWord w = true) : w ∈ ws0 := ws0_of (List.mem_append_right _ (show w ∈ tables_1_1 ++ (tables_1_2 ++ tables_1_3) from (List.mem_append_left _ h))) g
theorem ws0_2 {w : Cond} (h : w ∈ tables_1_2) (g : goodWord w = true) : w ∈ ws0 := ws0_of (List.mem_append_right _ (show w ∈ tables_1_1 ++ (tables_1_2 ++ tables_1_3) from (List.mem_append_right _ (List.mem_append_left _ h)))) g
theorem ws0_3 {w : Cond} (h : w ∈ tables_1_3) (g : goodWord w = true) : w ∈ ws0 := ws0_of (List.mem_append_right _ (show w ∈ tables_1_1 ++ (tables_1_2 ++ tables_1_3) from (List.mem_append_right _ (List.mem_append_right _ h)))) g
theorem ws0_q1 {q : MethodName × Nat} (h : q ∈ lw_privs_1) : q ∈ lw_privs := h
theorem mw_0 : Cond.classLink RL 17 RX7 ∈ ws0 := ws0_1 (List.mem_of_getElem? (i := 10) rfl) rfl
theorem mw_1 : Cond.instantiable RX7 9 ∈ ws0 := ws0_1 (List.mem_of_getElem? (i := 11) rfl) rfl
theorem mw_2 : Cond.initialized RX7 ∈ ws0 := ws0_1 (List.mem_of_getElem? (i := 1) rfl) rfl
theorem mw_3 : Cond.methodLink RL 95 yX7_init ∈ ws0 := ws0_1 (List.mem_of_getElem? (i := 12) rfl) rfl
theorem mw_4 : Cond.instanceMethod yX7_init ∈ ws0 := ws0_1 (List.mem_of_getElem? (i := 13) rfl) rfl
theorem mw_5 : Cond.code yX7_init cX7_init 1 none ∈ ws0 := ws0_1 (List.mem_of_getElem? (i := 14) rfl) rfl
theorem mw_6 : Cond.methodLink RX7 3 objectInit ∈ ws0 := ws0_1 (List.mem_of_getElem? (i := 15) rfl) rfl
theorem mw_7 : Cond.instanceMethod objectInit ∈ ws0 := ws0_1 (List.mem_of_getElem? (i := 16) rfl) rfl
theorem mw_8 : Cond.code objectInit ⟨#[0xb1]⟩ 1 none ∈ ws0 := ws0_1 (List.mem_of_getElem? (i := 17) rfl) rfl
theorem mw_9 : Cond.classLink RX7 9 RX5 ∈ ws0 := ws0_1 (List.mem_of_getElem? (i := 18) rfl) rfl
theorem mw_10 : Cond.instantiable RX5 10 ∈ ws0 := ws0_1 (List.mem_of_getElem? (i := 19) rfl) rfl
theorem mw_11 : Cond.initialized RX5 ∈ ws0 := ws0_1 (List.mem_of_getElem? (i := 2) rfl) rfl
theorem mw_12 : Cond.fieldLink RX7 12 "HiveBylaws" "state" "LHiveBylaws$State;" ∈ ws0 := ws0_2 (List.mem_of_getElem? (i := 6) rfl) rfl
theorem mw_13 : Cond.fieldLink RX7 16 "HiveBylaws" "before" "LHiveBylaws$State;" ∈ ws0 := ws0_2 (List.mem_of_getElem? (i := 7) rfl) rfl
theorem mw_14 : Cond.fieldLink RX7 19 "HiveBylaws" "trial" "LHiveBylaws$State;" ∈ ws0 := ws0_2 (List.mem_of_getElem? (i := 8) rfl) rfl
theorem mw_15 : Cond.fieldLink RX7 22 "HiveBylaws" "snapshot" "LHiveBylaws$State;" ∈ ws0 := ws0_2 (List.mem_of_getElem? (i := 9) rfl) rfl
theorem mw_16 : Cond.classLink RX7 25 RX0 ∈ ws0 := ws0_1 (List.mem_of_getElem? (i := 193) rfl) rfl
theorem mw_17 : Cond.instantiable RX0 3 ∈ ws0 := ws0_1 (List.mem_of_getElem? (i := 194) rfl) rfl
theorem mw_18 : Cond.initialized RX0 ∈ ws0 := ws0_1 (List.mem_of_getElem? (i := 7) rfl) rfl
theorem mw_19 : Cond.fieldLink RX7 28 "HiveBylaws" "history" "LHiveBylaws$History;" ∈ ws0 := ws0_2 (List.mem_of_getElem? (i := 10) rfl) rfl
theorem mw_20 : Cond.classLink RX7 32 RX2 ∈ ws0 := ws0_1 (List.mem_of_getElem? (i := 213) rfl) rfl
theorem mw_21 : Cond.instantiable RX2 9 ∈ ws0 := ws0_1 (List.mem_of_getElem? (i := 214) rfl) rfl
theorem mw_22 : Cond.initialized RX2 ∈ ws0 := ws0_1 (List.mem_of_getElem? (i := 8) rfl) rfl
theorem mw_23 : Cond.fieldLink RX7 35 "HiveBylaws" "text" "LHiveBylaws$PetitionText;" ∈ ws0 := ws0_2 (List.mem_of_getElem? (i := 11) rfl) rfl
theorem mw_24 : Cond.methodLink RX7 11 yX5_init ∈ ws0 := ws0_1 (List.mem_of_getElem? (i := 20) rfl) rfl
theorem mw_25 : Cond.instanceMethod yX5_init ∈ ws0 := ws0_1 (List.mem_of_getElem? (i := 21) rfl) rfl
theorem mw_26 : Cond.code yX5_init cX5_init 1 none ∈ ws0 := ws0_1 (List.mem_of_getElem? (i := 22) rfl) rfl
theorem mw_27 : Cond.methodLink RX5 3 objectInit ∈ ws0 := ws0_1 (List.mem_of_getElem? (i := 23) rfl) rfl
theorem mw_28 : Cond.classLink RX5 9 RX6 ∈ ws0 := ws0_1 (List.mem_of_getElem? (i := 24) rfl) rfl
theorem mw_29 : Cond.instantiable RX6 6 ∈ ws0 := ws0_1 (List.mem_of_getElem? (i := 25) rfl) rfl
theorem mw_30 : Cond.initialized RX6 ∈ ws0 := ws0_1 (List.mem_of_getElem? (i := 3) rfl) rfl
theorem mw_31 : Cond.fieldLink RX5 12 "HiveBylaws$State" "swarm" "LHiveBylaws$Swarm;" ∈ ws0 := ws0_1 (List.mem_of_getElem? (i := 153) rfl) rfl
theorem mw_32 : Cond.classLink RX5 18 RX1 ∈ ws0 := ws0_1 (List.mem_of_getElem? (i := 62) rfl) rfl
theorem mw_33 : Cond.instantiable RX1 3 ∈ ws0 := ws0_1 (List.mem_of_getElem? (i := 63) rfl) rfl
theorem mw_34 : Cond.initialized RX1 ∈ ws0 := ws0_1 (List.mem_of_getElem? (i := 4) rfl) rfl
theorem mw_35 : Cond.fieldLink RX5 21 "HiveBylaws$State" "laws" "LHiveBylaws$Laws;" ∈ ws0 := ws0_1 (List.mem_of_getElem? (i := 155) rfl) rfl
theorem mw_36 : Cond.classLink RX5 25 RX3 ∈ ws0 := ws0_1 (List.mem_of_getElem? (i := 84) rfl) rfl
theorem mw_37 : Cond.instantiable RX3 7 ∈ ws0 := ws0_1 (List.mem_of_getElem? (i := 85) rfl) rfl
theorem mw_38 : Cond.initialized RX3 ∈ ws0 := ws0_1 (List.mem_of_getElem? (i := 5) rfl) rfl
theorem mw_39 : Cond.fieldLink RX5 28 "HiveBylaws$State" "petitions" "LHiveBylaws$Petitions;" ∈ ws0 := ws0_1 (List.mem_of_getElem? (i := 157) rfl) rfl
theorem mw_40 : Cond.classLink RX5 32 RX4 ∈ ws0 := ws0_1 (List.mem_of_getElem? (i := 130) rfl) rfl
theorem mw_41 : Cond.instantiable RX4 5 ∈ ws0 := ws0_1 (List.mem_of_getElem? (i := 131) rfl) rfl
theorem mw_42 : Cond.initialized RX4 ∈ ws0 := ws0_1 (List.mem_of_getElem? (i := 6) rfl) rfl
theorem mw_43 : Cond.fieldLink RX5 35 "HiveBylaws$State" "refusals" "LHiveBylaws$Refusals;" ∈ ws0 := ws0_1 (List.mem_of_getElem? (i := 159) rfl) rfl
theorem mw_44 : Cond.arrayClass .int ∈ ws0 := ws0_1 (List.mem_of_getElem? (i := 61) rfl) rfl
theorem mw_45 : Cond.fieldLink RX5 39 "HiveBylaws$State" "setting" "[I" ∈ ws0 := ws0_1 (List.mem_of_getElem? (i := 160) rfl) rfl
theorem mw_46 : Cond.fieldLink RX5 43 "HiveBylaws$State" "verdict" "[I" ∈ ws0 := ws0_1 (List.mem_of_getElem? (i := 170) rfl) rfl
theorem mw_47 : Cond.methodLink RX5 11 yX6_init ∈ ws0 := ws0_1 (List.mem_of_getElem? (i := 26) rfl) rfl
theorem mw_48 : Cond.instanceMethod yX6_init ∈ ws0 := ws0_1 (List.mem_of_getElem? (i := 27) rfl) rfl
theorem mw_49 : Cond.code yX6_init cX6_init 1 none ∈ ws0 := ws0_1 (List.mem_of_getElem? (i := 28) rfl) rfl
theorem mw_50 : Cond.methodLink RX6 3 objectInit ∈ ws0 := ws0_1 (List.mem_of_getElem? (i := 29) rfl) rfl
theorem mw_51 : Cond.fieldLink RX6 9 "HiveBylaws$Swarm" "comb" "[I" ∈ ws0 := ws0_1 (List.mem_of_getElem? (i := 33) rfl) rfl
theorem mw_52 : Cond.fieldLink RX6 15 "HiveBylaws$Swarm" "weight" "[I" ∈ ws0 := ws0_1 (List.mem_of_getElem? (i := 36) rfl) rfl
theorem mw_53 : Cond.fieldLink RX6 18 "HiveBylaws$Swarm" "made" "[I" ∈ ws0 := ws0_1 (List.mem_of_getElem? (i := 39) rfl) rfl
theorem mw_54 : Cond.fieldLink RX6 21 "HiveBylaws$Swarm" "passed" "[I" ∈ ws0 := ws0_1 (List.mem_of_getElem? (i := 42) rfl) rfl
theorem mw_55 : Cond.fieldLink RX6 24 "HiveBylaws$Swarm" "refused" "[I" ∈ ws0 := ws0_1 (List.mem_of_getElem? (i := 45) rfl) rfl
theorem mw_56 : Cond.methodLink RX5 20 yX1_init ∈ ws0 := ws0_1 (List.mem_of_getElem? (i := 64) rfl) rfl
theorem mw_57 : Cond.instanceMethod yX1_init ∈ ws0 := ws0_1 (List.mem_of_getElem? (i := 65) rfl) rfl
theorem mw_58 : Cond.code yX1_init cX1_init 1 none ∈ ws0 := ws0_1 (List.mem_of_getElem? (i := 66) rfl) rfl
theorem mw_59 : Cond.methodLink RX1 3 objectInit ∈ ws0 := ws0_1 (List.mem_of_getElem? (i := 67) rfl) rfl
theorem mw_60 : Cond.fieldLink RX1 9 "HiveBylaws$Laws" "stance" "[I" ∈ ws0 := ws0_1 (List.mem_of_getElem? (i := 68) rfl) rfl
theorem mw_61 : Cond.fieldLink RX1 15 "HiveBylaws$Laws" "strength" "[I" ∈ ws0 := ws0_1 (List.mem_of_getElem? (i := 71) rfl) rfl
theorem mw_62 : Cond.fieldLink RX1 18 "HiveBylaws$Laws" "season" "[I" ∈ ws0 := ws0_1 (List.mem_of_getElem? (i := 74) rfl) rfl
theorem mw_63 : Cond.methodLink RX5 27 yX3_init ∈ ws0 := ws0_1 (List.mem_of_getElem? (i := 86) rfl) rfl
theorem mw_64 : Cond.instanceMethod yX3_init ∈ ws0 := ws0_1 (List.mem_of_getElem? (i := 87) rfl) rfl
theorem mw_65 : Cond.code yX3_init cX3_init 1 none ∈ ws0 := ws0_1 (List.mem_of_getElem? (i := 88) rfl) rfl
theorem mw_66 : Cond.methodLink RX3 3 objectInit ∈ ws0 := ws0_1 (List.mem_of_getElem? (i := 89) rfl) rfl
theorem mw_67 : Cond.fieldLink RX3 9 "HiveBylaws$Petitions" "drone" "[I" ∈ ws0 := ws0_1 (List.mem_of_getElem? (i := 93) rfl) rfl
theorem mw_68 : Cond.fieldLink RX3 15 "HiveBylaws$Petitions" "place" "[I" ∈ ws0 := ws0_1 (List.mem_of_getElem? (i := 96) rfl) rfl
theorem mw_69 : Cond.fieldLink RX3 18 "HiveBylaws$Petitions" "doing" "[I" ∈ ws0 := ws0_1 (List.mem_of_getElem? (i := 100) rfl) rfl
theorem mw_70 : Cond.fieldLink RX3 21 "HiveBylaws$Petitions" "kind" "[I" ∈ ws0 := ws0_1 (List.mem_of_getElem? (i := 104) rfl) rfl
theorem mw_71 : Cond.fieldLink RX3 24 "HiveBylaws$Petitions" "support" "[I" ∈ ws0 := ws0_1 (List.mem_of_getElem? (i := 108) rfl) rfl
theorem mw_72 : Cond.fieldLink RX3 27 "HiveBylaws$Petitions" "seconders" "[I" ∈ ws0 := ws0_1 (List.mem_of_getElem? (i := 112) rfl) rfl
theorem mw_73 : Cond.methodLink RX5 34 yX4_init ∈ ws0 := ws0_1 (List.mem_of_getElem? (i := 132) rfl) rfl
theorem mw_74 : Cond.instanceMethod yX4_init ∈ ws0 := ws0_1 (List.mem_of_getElem? (i := 133) rfl) rfl
theorem mw_75 : Cond.code yX4_init cX4_init 1 none ∈ ws0 := ws0_1 (List.mem_of_getElem? (i := 134) rfl) rfl
theorem mw_76 : Cond.methodLink RX4 3 objectInit ∈ ws0 := ws0_1 (List.mem_of_getElem? (i := 135) rfl) rfl
theorem mw_77 : Cond.fieldLink RX4 9 "HiveBylaws$Refusals" "place" "[I" ∈ ws0 := ws0_1 (List.mem_of_getElem? (i := 138) rfl) rfl
theorem mw_78 : Cond.fieldLink RX4 15 "HiveBylaws$Refusals" "doing" "[I" ∈ ws0 := ws0_1 (List.mem_of_getElem? (i := 139) rfl) rfl
theorem mw_79 : Cond.fieldLink RX4 18 "HiveBylaws$Refusals" "kind" "[I" ∈ ws0 := ws0_1 (List.mem_of_getElem? (i := 140) rfl) rfl
theorem mw_80 : Cond.fieldLink RX4 21 "HiveBylaws$Refusals" "support" "[I" ∈ ws0 := ws0_1 (List.mem_of_getElem? (i := 141) rfl) rfl
theorem mw_81 : Cond.methodLink RX7 27 yX0_init ∈ ws0 := ws0_1 (List.mem_of_getElem? (i := 195) rfl) rfl
theorem mw_82 : Cond.instanceMethod yX0_init ∈ ws0 := ws0_1 (List.mem_of_getElem? (i := 196) rfl) rfl
theorem mw_83 : Cond.code yX0_init cX0_init 2 none ∈ ws0 := ws0_1 (List.mem_of_getElem? (i := 197) rfl) rfl
theorem mw_84 : Cond.methodLink RX0 3 objectInit ∈ ws0 := ws0_1 (List.mem_of_getElem? (i := 198) rfl) rfl
theorem mw_85 : Cond.classLink RX0 9 RX5 ∈ ws0 := ws0_1 (List.mem_of_getElem? (i := 199) rfl) rfl
theorem mw_86 : Cond.fieldLink RX0 11 "HiveBylaws$History" "ring" "[LHiveBylaws$State;" ∈ ws0 := ws0_1 (List.mem_of_getElem? (i := 202) rfl) rfl
theorem mw_87 : Cond.methodLink RX0 17 yX5_init ∈ ws0 := ws0_1 (List.mem_of_getElem? (i := 201) rfl) rfl
theorem mw_88 : Cond.methodLink RX7 34 yX2_init ∈ ws0 := ws0_1 (List.mem_of_getElem? (i := 215) rfl) rfl
theorem mw_89 : Cond.instanceMethod yX2_init ∈ ws0 := ws0_1 (List.mem_of_getElem? (i := 216) rfl) rfl
theorem mw_90 : Cond.code yX2_init cX2_init 1 none ∈ ws0 := ws0_1 (List.mem_of_getElem? (i := 217) rfl) rfl
theorem mw_91 : Cond.methodLink RX2 3 objectInit ∈ ws0 := ws0_1 (List.mem_of_getElem? (i := 218) rfl) rfl
theorem mw_92 : Cond.arrayClass .char ∈ ws0 := ws0_2 (List.mem_of_getElem? (i := 5) rfl) rfl
theorem mw_93 : Cond.fieldLink RX2 9 "HiveBylaws$PetitionText" "characters" "[C" ∈ ws0 := ws0_1 (List.mem_of_getElem? (i := 219) rfl) rfl
theorem mw_94 : Cond.fieldLink RX2 15 "HiveBylaws$PetitionText" "act" "[I" ∈ ws0 := ws0_1 (List.mem_of_getElem? (i := 221) rfl) rfl
theorem mw_95 : Cond.fieldLink RX2 19 "HiveBylaws$PetitionText" "drone" "[I" ∈ ws0 := ws0_1 (List.mem_of_getElem? (i := 222) rfl) rfl
theorem mw_96 : Cond.fieldLink RX2 22 "HiveBylaws$PetitionText" "number" "[I" ∈ ws0 := ws0_1 (List.mem_of_getElem? (i := 223) rfl) rfl
theorem mw_97 : Cond.fieldLink RX2 25 "HiveBylaws$PetitionText" "doing" "[I" ∈ ws0 := ws0_1 (List.mem_of_getElem? (i := 224) rfl) rfl
theorem mw_98 : Cond.fieldLink RX2 28 "HiveBylaws$PetitionText" "kind" "[I" ∈ ws0 := ws0_1 (List.mem_of_getElem? (i := 225) rfl) rfl
theorem mw_99 : Cond.methodLink RL 86 yL_hangs ∈ ws0 := ws0_3 (List.mem_of_getElem? (i := 11) rfl) rfl
theorem mw_100 : Cond.static yL_hangs ∈ ws0 := ws0_3 (List.mem_of_getElem? (i := 12) rfl) rfl
theorem mw_101 : Cond.initialized RL ∈ ws0 := ws0_1 (List.mem_of_getElem? (i := 0) rfl) rfl
theorem mw_102 : Cond.code yL_hangs cL_hangs 9 (some .boolean) ∈ ws0 := ws0_3 (List.mem_of_getElem? (i := 13) rfl) rfl
theorem mw_103 : Cond.methodLink RL 41 yX7_count ∈ ws0 := ws0_2 (List.mem_of_getElem? (i := 89) rfl) rfl
theorem mw_104 : Cond.instanceMethod yX7_count ∈ ws0 := ws0_2 (List.mem_of_getElem? (i := 90) rfl) rfl
theorem mw_105 : Cond.selects RX7 yX7_count yX7_count ∈ ws0 := ws0_2 (List.mem_of_getElem? (i := 91) rfl) rfl
theorem mw_106 : Cond.code yX7_count cX7_count 2 (some .int) ∈ ws0 := ws0_2 (List.mem_of_getElem? (i := 92) rfl) rfl
theorem mw_107 : Cond.fieldLink RX7 222 "HiveBylaws$State" "day" "I" ∈ ws0 := ws0_1 (List.mem_of_getElem? (i := 163) rfl) rfl
theorem mw_108 : Cond.fieldLink RX7 225 "HiveBylaws$State" "season" "I" ∈ ws0 := ws0_1 (List.mem_of_getElem? (i := 165) rfl) rfl
theorem mw_109 : Cond.fieldLink RX7 227 "HiveBylaws$State" "daysOfSeason" "I" ∈ ws0 := ws0_1 (List.mem_of_getElem? (i := 167) rfl) rfl
theorem mw_110 : Cond.fieldLink RX7 108 "HiveBylaws$State" "swarm" "LHiveBylaws$Swarm;" ∈ ws0 := ws0_1 (List.mem_of_getElem? (i := 154) rfl) rfl
theorem mw_111 : Cond.fieldLink RX7 212 "HiveBylaws$Swarm" "size" "I" ∈ ws0 := ws0_1 (List.mem_of_getElem? (i := 32) rfl) rfl
theorem mw_112 : Cond.fieldLink RX7 99 "HiveBylaws$State" "laws" "LHiveBylaws$Laws;" ∈ ws0 := ws0_1 (List.mem_of_getElem? (i := 156) rfl) rfl
theorem mw_113 : Cond.fieldLink RX7 125 "HiveBylaws$State" "petitions" "LHiveBylaws$Petitions;" ∈ ws0 := ws0_1 (List.mem_of_getElem? (i := 158) rfl) rfl
theorem mw_114 : Cond.fieldLink RX7 207 "HiveBylaws$Petitions" "size" "I" ∈ ws0 := ws0_1 (List.mem_of_getElem? (i := 92) rfl) rfl
theorem mw_115 : Cond.fieldLink RX7 137 "HiveBylaws$Swarm" "made" "[I" ∈ ws0 := ws0_1 (List.mem_of_getElem? (i := 41) rfl) rfl
theorem mw_116 : Cond.fieldLink RX7 140 "HiveBylaws$Swarm" "passed" "[I" ∈ ws0 := ws0_1 (List.mem_of_getElem? (i := 44) rfl) rfl
theorem mw_117 : Cond.fieldLink RX7 143 "HiveBylaws$Swarm" "refused" "[I" ∈ ws0 := ws0_1 (List.mem_of_getElem? (i := 47) rfl) rfl
theorem mw_118 : Cond.fieldLink RX7 237 "HiveBylaws$State" "repeals" "I" ∈ ws0 := ws0_1 (List.mem_of_getElem? (i := 169) rfl) rfl
theorem mw_119 : Cond.fieldLink RX7 243 "HiveBylaws$State" "setting" "[I" ∈ ws0 := ws0_1 (List.mem_of_getElem? (i := 161) rfl) rfl
theorem mw_120 : Cond.fieldLink RX7 246 "HiveBylaws$History" "size" "I" ∈ ws0 := ws0_1 (List.mem_of_getElem? (i := 205) rfl) rfl
theorem mw_121 : Cond.fieldLink RX7 247 "HiveBylaws$PetitionText" "length" "I" ∈ ws0 := ws0_1 (List.mem_of_getElem? (i := 220) rfl) rfl
theorem mw_122 : Cond.methodLink RX7 103 yX1_size ∈ ws0 := ws0_2 (List.mem_of_getElem? (i := 93) rfl) rfl
theorem mw_123 : Cond.instanceMethod yX1_size ∈ ws0 := ws0_2 (List.mem_of_getElem? (i := 94) rfl) rfl
theorem mw_124 : Cond.selects RX1 yX1_size yX1_size ∈ ws0 := ws0_2 (List.mem_of_getElem? (i := 95) rfl) rfl
theorem mw_125 : Cond.code yX1_size cX1_size 1 (some .int) ∈ ws0 := ws0_2 (List.mem_of_getElem? (i := 96) rfl) rfl
theorem mw_126 : Cond.methodLink RX1 27 yX1_rankOf ∈ ws0 := ws0_2 (List.mem_of_getElem? (i := 97) rfl) rfl
theorem mw_127 : Cond.instanceMethod yX1_rankOf ∈ ws0 := ws0_2 (List.mem_of_getElem? (i := 98) rfl) rfl
theorem mw_128 : Cond.selects RX1 yX1_rankOf yX1_rankOf ∈ ws0 := ws0_2 (List.mem_of_getElem? (i := 99) rfl) rfl
theorem mw_129 : Cond.code yX1_rankOf cX1_rankOf 4 (some .int) ∈ ws0 := ws0_2 (List.mem_of_getElem? (i := 100) rfl) rfl
theorem mw_130 : Cond.methodLink RX7 230 yX1_forbidding ∈ ws0 := ws0_2 (List.mem_of_getElem? (i := 101) rfl) rfl
theorem mw_131 : Cond.instanceMethod yX1_forbidding ∈ ws0 := ws0_2 (List.mem_of_getElem? (i := 102) rfl) rfl
theorem mw_132 : Cond.selects RX1 yX1_forbidding yX1_forbidding ∈ ws0 := ws0_2 (List.mem_of_getElem? (i := 103) rfl) rfl
theorem mw_133 : Cond.code yX1_forbidding cX1_forbidding 3 (some .int) ∈ ws0 := ws0_2 (List.mem_of_getElem? (i := 104) rfl) rfl
theorem mw_134 : Cond.methodLink RX7 233 yX7_sum ∈ ws0 := ws0_2 (List.mem_of_getElem? (i := 105) rfl) rfl
theorem mw_135 : Cond.static yX7_sum ∈ ws0 := ws0_2 (List.mem_of_getElem? (i := 106) rfl) rfl
theorem mw_136 : Cond.code yX7_sum cX7_sum 6 (some .int) ∈ ws0 := ws0_2 (List.mem_of_getElem? (i := 107) rfl) rfl
theorem mw_137 : Cond.methodLink RX7 240 yX1_forbiddenDoings ∈ ws0 := ws0_2 (List.mem_of_getElem? (i := 108) rfl) rfl
theorem mw_138 : Cond.instanceMethod yX1_forbiddenDoings ∈ ws0 := ws0_2 (List.mem_of_getElem? (i := 109) rfl) rfl
theorem mw_139 : Cond.selects RX1 yX1_forbiddenDoings yX1_forbiddenDoings ∈ ws0 := ws0_2 (List.mem_of_getElem? (i := 110) rfl) rfl
theorem mw_140 : Cond.code yX1_forbiddenDoings cX1_forbiddenDoings 4 (some .int) ∈ ws0 := ws0_2 (List.mem_of_getElem? (i := 111) rfl) rfl
theorem mw_141 : Cond.methodLink RX1 41 yX1_isForbidden ∈ ws0 := ws0_2 (List.mem_of_getElem? (i := 112) rfl) rfl
theorem mw_142 : Cond.instanceMethod yX1_isForbidden ∈ ws0 := ws0_2 (List.mem_of_getElem? (i := 113) rfl) rfl
theorem mw_143 : Cond.selects RX1 yX1_isForbidden yX1_isForbidden ∈ ws0 := ws0_2 (List.mem_of_getElem? (i := 114) rfl) rfl
theorem mw_144 : Cond.code yX1_isForbidden cX1_isForbidden 4 (some .boolean) ∈ ws0 := ws0_2 (List.mem_of_getElem? (i := 115) rfl) rfl
theorem mw_145 : Cond.methodLink RX1 35 yX1_rulingPlace ∈ ws0 := ws0_2 (List.mem_of_getElem? (i := 116) rfl) rfl
theorem mw_146 : Cond.instanceMethod yX1_rulingPlace ∈ ws0 := ws0_2 (List.mem_of_getElem? (i := 117) rfl) rfl
theorem mw_147 : Cond.selects RX1 yX1_rulingPlace yX1_rulingPlace ∈ ws0 := ws0_2 (List.mem_of_getElem? (i := 118) rfl) rfl
theorem mw_148 : Cond.code yX1_rulingPlace cX1_rulingPlace 5 (some .int) ∈ ws0 := ws0_2 (List.mem_of_getElem? (i := 119) rfl) rfl
theorem mw_149 : Cond.methodLink RX1 31 yX1_strengthOf ∈ ws0 := ws0_2 (List.mem_of_getElem? (i := 120) rfl) rfl
theorem mw_150 : Cond.instanceMethod yX1_strengthOf ∈ ws0 := ws0_2 (List.mem_of_getElem? (i := 121) rfl) rfl
theorem mw_151 : Cond.selects RX1 yX1_strengthOf yX1_strengthOf ∈ ws0 := ws0_2 (List.mem_of_getElem? (i := 122) rfl) rfl
theorem mw_152 : Cond.code yX1_strengthOf cX1_strengthOf 3 (some .int) ∈ ws0 := ws0_2 (List.mem_of_getElem? (i := 123) rfl) rfl
theorem mw_153 : Cond.methodLink RX1 38 yX1_stanceOf ∈ ws0 := ws0_2 (List.mem_of_getElem? (i := 124) rfl) rfl
theorem mw_154 : Cond.instanceMethod yX1_stanceOf ∈ ws0 := ws0_2 (List.mem_of_getElem? (i := 125) rfl) rfl
theorem mw_155 : Cond.selects RX1 yX1_stanceOf yX1_stanceOf ∈ ws0 := ws0_2 (List.mem_of_getElem? (i := 126) rfl) rfl
theorem mw_156 : Cond.code yX1_stanceOf cX1_stanceOf 3 (some .int) ∈ ws0 := ws0_2 (List.mem_of_getElem? (i := 127) rfl) rfl
theorem mw_157 : Cond.methodLink RL 54 yX7_bylaw ∈ ws0 := ws0_3 (List.mem_of_getElem? (i := 14) rfl) rfl
theorem mw_158 : Cond.instanceMethod yX7_bylaw ∈ ws0 := ws0_3 (List.mem_of_getElem? (i := 15) rfl) rfl
theorem mw_159 : Cond.selects RX7 yX7_bylaw yX7_bylaw ∈ ws0 := ws0_3 (List.mem_of_getElem? (i := 16) rfl) rfl
theorem mw_160 : Cond.code yX7_bylaw cX7_bylaw 5 (some .int) ∈ ws0 := ws0_3 (List.mem_of_getElem? (i := 17) rfl) rfl
theorem mw_161 : Cond.fieldLink RX7 149 "HiveBylaws$Laws" "stance" "[I" ∈ ws0 := ws0_1 (List.mem_of_getElem? (i := 70) rfl) rfl
theorem mw_162 : Cond.fieldLink RX7 152 "HiveBylaws$Laws" "strength" "[I" ∈ ws0 := ws0_1 (List.mem_of_getElem? (i := 73) rfl) rfl
theorem mw_163 : Cond.fieldLink RX7 155 "HiveBylaws$Laws" "season" "[I" ∈ ws0 := ws0_1 (List.mem_of_getElem? (i := 76) rfl) rfl
theorem mw_164 : Cond.methodLink RX7 146 yX1_spotAt ∈ ws0 := ws0_3 (List.mem_of_getElem? (i := 18) rfl) rfl
theorem mw_165 : Cond.instanceMethod yX1_spotAt ∈ ws0 := ws0_3 (List.mem_of_getElem? (i := 19) rfl) rfl
theorem mw_166 : Cond.selects RX1 yX1_spotAt yX1_spotAt ∈ ws0 := ws0_3 (List.mem_of_getElem? (i := 20) rfl) rfl
theorem mw_167 : Cond.code yX1_spotAt cX1_spotAt 4 (some .int) ∈ ws0 := ws0_3 (List.mem_of_getElem? (i := 21) rfl) rfl
theorem mw_168 : Cond.methodLink RX7 158 yX6_weightAt ∈ ws0 := ws0_3 (List.mem_of_getElem? (i := 22) rfl) rfl
theorem mw_169 : Cond.instanceMethod yX6_weightAt ∈ ws0 := ws0_2 (List.mem_of_getElem? (i := 239) rfl) rfl
theorem mw_170 : Cond.selects RX6 yX6_weightAt yX6_weightAt ∈ ws0 := ws0_3 (List.mem_of_getElem? (i := 0) rfl) rfl
theorem mw_171 : Cond.code yX6_weightAt cX6_weightAt 4 (some .int) ∈ ws0 := ws0_3 (List.mem_of_getElem? (i := 1) rfl) rfl
theorem mw_172 : Cond.fieldLink RX6 27 "HiveBylaws$Swarm" "size" "I" ∈ ws0 := ws0_1 (List.mem_of_getElem? (i := 30) rfl) rfl
theorem mw_173 : Cond.methodLink RL 57 yL_weight ∈ ws0 := ws0_3 (List.mem_of_getElem? (i := 23) rfl) rfl
theorem mw_174 : Cond.static yL_weight ∈ ws0 := ws0_3 (List.mem_of_getElem? (i := 24) rfl) rfl
theorem mw_175 : Cond.code yL_weight cL_weight 4 (some .int) ∈ ws0 := ws0_3 (List.mem_of_getElem? (i := 25) rfl) rfl
theorem mw_176 : Cond.methodLink RL 24 yX7_drone ∈ ws0 := ws0_2 (List.mem_of_getElem? (i := 152) rfl) rfl
theorem mw_177 : Cond.instanceMethod yX7_drone ∈ ws0 := ws0_2 (List.mem_of_getElem? (i := 153) rfl) rfl
theorem mw_178 : Cond.selects RX7 yX7_drone yX7_drone ∈ ws0 := ws0_2 (List.mem_of_getElem? (i := 154) rfl) rfl
theorem mw_179 : Cond.code yX7_drone cX7_drone 4 (some .int) ∈ ws0 := ws0_2 (List.mem_of_getElem? (i := 155) rfl) rfl
theorem mw_180 : Cond.fieldLink RX7 118 "HiveBylaws$Swarm" "comb" "[I" ∈ ws0 := ws0_1 (List.mem_of_getElem? (i := 35) rfl) rfl
theorem mw_181 : Cond.fieldLink RX7 122 "HiveBylaws$Swarm" "weight" "[I" ∈ ws0 := ws0_1 (List.mem_of_getElem? (i := 38) rfl) rfl
theorem mw_182 : Cond.methodLink RX7 112 yX6_knows ∈ ws0 := ws0_2 (List.mem_of_getElem? (i := 156) rfl) rfl
theorem mw_183 : Cond.instanceMethod yX6_knows ∈ ws0 := ws0_2 (List.mem_of_getElem? (i := 149) rfl) rfl
theorem mw_184 : Cond.selects RX6 yX6_knows yX6_knows ∈ ws0 := ws0_2 (List.mem_of_getElem? (i := 150) rfl) rfl
theorem mw_185 : Cond.code yX6_knows cX6_knows 2 (some .boolean) ∈ ws0 := ws0_2 (List.mem_of_getElem? (i := 151) rfl) rfl
theorem mw_186 : Cond.methodLink RX7 129 yX3_madeBy ∈ ws0 := ws0_2 (List.mem_of_getElem? (i := 157) rfl) rfl
theorem mw_187 : Cond.instanceMethod yX3_madeBy ∈ ws0 := ws0_2 (List.mem_of_getElem? (i := 158) rfl) rfl
theorem mw_188 : Cond.selects RX3 yX3_madeBy yX3_madeBy ∈ ws0 := ws0_2 (List.mem_of_getElem? (i := 159) rfl) rfl
theorem mw_189 : Cond.code yX3_madeBy cX3_madeBy 3 (some .int) ∈ ws0 := ws0_2 (List.mem_of_getElem? (i := 160) rfl) rfl
theorem mw_190 : Cond.fieldLink RX3 30 "HiveBylaws$Petitions" "size" "I" ∈ ws0 := ws0_1 (List.mem_of_getElem? (i := 90) rfl) rfl
theorem mw_191 : Cond.methodLink RX7 134 yX3_secondedBy ∈ ws0 := ws0_2 (List.mem_of_getElem? (i := 161) rfl) rfl
theorem mw_192 : Cond.instanceMethod yX3_secondedBy ∈ ws0 := ws0_2 (List.mem_of_getElem? (i := 162) rfl) rfl
theorem mw_193 : Cond.selects RX3 yX3_secondedBy yX3_secondedBy ∈ ws0 := ws0_2 (List.mem_of_getElem? (i := 163) rfl) rfl
theorem mw_194 : Cond.code yX3_secondedBy cX3_secondedBy 4 (some .int) ∈ ws0 := ws0_2 (List.mem_of_getElem? (i := 164) rfl) rfl
theorem mw_195 : Cond.methodLink RL 61 yX7_rule ∈ ws0 := ws0_3 (List.mem_of_getElem? (i := 26) rfl) rfl
theorem mw_196 : Cond.instanceMethod yX7_rule ∈ ws0 := ws0_3 (List.mem_of_getElem? (i := 27) rfl) rfl
theorem mw_197 : Cond.selects RX7 yX7_rule yX7_rule ∈ ws0 := ws0_3 (List.mem_of_getElem? (i := 28) rfl) rfl
theorem mw_198 : Cond.code yX7_rule cX7_rule 5 (some .int) ∈ ws0 := ws0_3 (List.mem_of_getElem? (i := 29) rfl) rfl
theorem mw_199 : Cond.methodLink RX7 185 yX7_isComb ∈ ws0 := ws0_3 (List.mem_of_getElem? (i := 30) rfl) rfl
theorem mw_200 : Cond.static yX7_isComb ∈ ws0 := ws0_2 (List.mem_of_getElem? (i := 66) rfl) rfl
theorem mw_201 : Cond.code yX7_isComb cX7_isComb 1 (some .boolean) ∈ ws0 := ws0_2 (List.mem_of_getElem? (i := 67) rfl) rfl
theorem mw_202 : Cond.methodLink RX7 188 yX7_isDoing ∈ ws0 := ws0_3 (List.mem_of_getElem? (i := 31) rfl) rfl
theorem mw_203 : Cond.static yX7_isDoing ∈ ws0 := ws0_2 (List.mem_of_getElem? (i := 177) rfl) rfl
theorem mw_204 : Cond.code yX7_isDoing cX7_isDoing 1 (some .boolean) ∈ ws0 := ws0_2 (List.mem_of_getElem? (i := 178) rfl) rfl
theorem mw_205 : Cond.methodLink RX7 191 yX1_rulingPlace ∈ ws0 := ws0_3 (List.mem_of_getElem? (i := 32) rfl) rfl
theorem mw_206 : Cond.methodLink RX7 194 yX1_isForbidden ∈ ws0 := ws0_3 (List.mem_of_getElem? (i := 33) rfl) rfl
theorem mw_207 : Cond.methodLink RX7 198 yX1_strengthOf ∈ ws0 := ws0_3 (List.mem_of_getElem? (i := 34) rfl) rfl
theorem mw_208 : Cond.methodLink RL 65 yX7_oldest ∈ ws0 := ws0_3 (List.mem_of_getElem? (i := 35) rfl) rfl
theorem mw_209 : Cond.instanceMethod yX7_oldest ∈ ws0 := ws0_3 (List.mem_of_getElem? (i := 36) rfl) rfl
theorem mw_210 : Cond.selects RX7 yX7_oldest yX7_oldest ∈ ws0 := ws0_3 (List.mem_of_getElem? (i := 37) rfl) rfl
theorem mw_211 : Cond.code yX7_oldest cX7_oldest 4 (some .int) ∈ ws0 := ws0_3 (List.mem_of_getElem? (i := 38) rfl) rfl
theorem mw_212 : Cond.methodLink RX7 216 yX1_oldestSpot ∈ ws0 := ws0_3 (List.mem_of_getElem? (i := 39) rfl) rfl
theorem mw_213 : Cond.instanceMethod yX1_oldestSpot ∈ ws0 := ws0_3 (List.mem_of_getElem? (i := 40) rfl) rfl
theorem mw_214 : Cond.selects RX1 yX1_oldestSpot yX1_oldestSpot ∈ ws0 := ws0_3 (List.mem_of_getElem? (i := 41) rfl) rfl
theorem mw_215 : Cond.code yX1_oldestSpot cX1_oldestSpot 5 (some .int) ∈ ws0 := ws0_3 (List.mem_of_getElem? (i := 42) rfl) rfl
theorem mw_216 : Cond.methodLink RX7 219 yX1_rankOf ∈ ws0 := ws0_3 (List.mem_of_getElem? (i := 43) rfl) rfl
theorem mw_217 : Cond.methodLink RL 68 yL_petitions ∈ ws0 := ws0_3 (List.mem_of_getElem? (i := 44) rfl) rfl
theorem mw_218 : Cond.static yL_petitions ∈ ws0 := ws0_3 (List.mem_of_getElem? (i := 45) rfl) rfl
theorem mw_219 : Cond.code yL_petitions cL_petitions 11 (some .boolean) ∈ ws0 := ws0_3 (List.mem_of_getElem? (i := 46) rfl) rfl
theorem mw_220 : Cond.methodLink RL 44 yX7_petitionOf ∈ ws0 := ws0_3 (List.mem_of_getElem? (i := 47) rfl) rfl
theorem mw_221 : Cond.instanceMethod yX7_petitionOf ∈ ws0 := ws0_3 (List.mem_of_getElem? (i := 48) rfl) rfl
theorem mw_222 : Cond.selects RX7 yX7_petitionOf yX7_petitionOf ∈ ws0 := ws0_3 (List.mem_of_getElem? (i := 49) rfl) rfl
theorem mw_223 : Cond.code yX7_petitionOf cX7_petitionOf 4 (some .int) ∈ ws0 := ws0_3 (List.mem_of_getElem? (i := 50) rfl) rfl
theorem mw_224 : Cond.fieldLink RX7 164 "HiveBylaws$Petitions" "drone" "[I" ∈ ws0 := ws0_1 (List.mem_of_getElem? (i := 95) rfl) rfl
theorem mw_225 : Cond.fieldLink RX7 167 "HiveBylaws$Petitions" "place" "[I" ∈ ws0 := ws0_1 (List.mem_of_getElem? (i := 99) rfl) rfl
theorem mw_226 : Cond.fieldLink RX7 170 "HiveBylaws$Petitions" "doing" "[I" ∈ ws0 := ws0_1 (List.mem_of_getElem? (i := 103) rfl) rfl
theorem mw_227 : Cond.fieldLink RX7 173 "HiveBylaws$Petitions" "kind" "[I" ∈ ws0 := ws0_1 (List.mem_of_getElem? (i := 107) rfl) rfl
theorem mw_228 : Cond.fieldLink RX7 176 "HiveBylaws$Petitions" "support" "[I" ∈ ws0 := ws0_1 (List.mem_of_getElem? (i := 111) rfl) rfl
theorem mw_229 : Cond.fieldLink RX7 179 "HiveBylaws$Petitions" "seconders" "[I" ∈ ws0 := ws0_1 (List.mem_of_getElem? (i := 114) rfl) rfl
theorem mw_230 : Cond.methodLink RX7 161 yX3_has ∈ ws0 := ws0_3 (List.mem_of_getElem? (i := 51) rfl) rfl
theorem mw_231 : Cond.instanceMethod yX3_has ∈ ws0 := ws0_2 (List.mem_of_getElem? (i := 193) rfl) rfl
theorem mw_232 : Cond.selects RX3 yX3_has yX3_has ∈ ws0 := ws0_2 (List.mem_of_getElem? (i := 194) rfl) rfl
theorem mw_233 : Cond.code yX3_has cX3_has 2 (some .boolean) ∈ ws0 := ws0_2 (List.mem_of_getElem? (i := 195) rfl) rfl
theorem mw_234 : Cond.methodLink RL 47 yX7_heard ∈ ws0 := ws0_3 (List.mem_of_getElem? (i := 52) rfl) rfl
theorem mw_235 : Cond.instanceMethod yX7_heard ∈ ws0 := ws0_3 (List.mem_of_getElem? (i := 53) rfl) rfl
theorem mw_236 : Cond.selects RX7 yX7_heard yX7_heard ∈ ws0 := ws0_3 (List.mem_of_getElem? (i := 54) rfl) rfl
theorem mw_237 : Cond.code yX7_heard cX7_heard 2 (some .int) ∈ ws0 := ws0_3 (List.mem_of_getElem? (i := 55) rfl) rfl
theorem mw_238 : Cond.methodLink RX7 182 yX3_atRank ∈ ws0 := ws0_3 (List.mem_of_getElem? (i := 56) rfl) rfl
theorem mw_239 : Cond.instanceMethod yX3_atRank ∈ ws0 := ws0_2 (List.mem_of_getElem? (i := 222) rfl) rfl
theorem mw_240 : Cond.selects RX3 yX3_atRank yX3_atRank ∈ ws0 := ws0_2 (List.mem_of_getElem? (i := 223) rfl) rfl
theorem mw_241 : Cond.code yX3_atRank cX3_atRank 3 (some .int) ∈ ws0 := ws0_2 (List.mem_of_getElem? (i := 224) rfl) rfl
theorem mw_242 : Cond.methodLink RX3 40 yX3_rankOf ∈ ws0 := ws0_2 (List.mem_of_getElem? (i := 225) rfl) rfl
theorem mw_243 : Cond.instanceMethod yX3_rankOf ∈ ws0 := ws0_2 (List.mem_of_getElem? (i := 227) rfl) rfl
theorem mw_244 : Cond.selects RX3 yX3_rankOf yX3_rankOf ∈ ws0 := ws0_p (n := 7) (ws0_q1 (List.mem_of_getElem? (i := 2) rfl))
theorem mw_245 : Cond.code yX3_rankOf cX3_rankOf 6 (some .int) ∈ ws0 := ws0_2 (List.mem_of_getElem? (i := 228) rfl) rfl
theorem mw_246 : Cond.methodLink RL 50 yX7_free ∈ ws0 := ws0_3 (List.mem_of_getElem? (i := 57) rfl) rfl
theorem mw_247 : Cond.instanceMethod yX7_free ∈ ws0 := ws0_3 (List.mem_of_getElem? (i := 58) rfl) rfl
theorem mw_248 : Cond.selects RX7 yX7_free yX7_free ∈ ws0 := ws0_3 (List.mem_of_getElem? (i := 59) rfl) rfl
theorem mw_249 : Cond.code yX7_free cX7_free 2 (some .int) ∈ ws0 := ws0_3 (List.mem_of_getElem? (i := 60) rfl) rfl
theorem mw_250 : Cond.methodLink RX7 213 yX3_makers ∈ ws0 := ws0_3 (List.mem_of_getElem? (i := 61) rfl) rfl
theorem mw_251 : Cond.instanceMethod yX3_makers ∈ ws0 := ws0_3 (List.mem_of_getElem? (i := 62) rfl) rfl
theorem mw_252 : Cond.selects RX3 yX3_makers yX3_makers ∈ ws0 := ws0_3 (List.mem_of_getElem? (i := 63) rfl) rfl
theorem mw_253 : Cond.code yX3_makers cX3_makers 3 (some .int) ∈ ws0 := ws0_3 (List.mem_of_getElem? (i := 64) rfl) rfl
theorem mw_254 : Cond.methodLink RL 96 yL_ends ∈ ws0 := ws0_3 (List.mem_of_getElem? (i := 70) rfl) rfl
theorem mw_255 : Cond.static yL_ends ∈ ws0 := ws0_3 (List.mem_of_getElem? (i := 71) rfl) rfl
theorem mw_256 : Cond.code yL_ends cL_ends 14 (some .boolean) ∈ ws0 := ws0_3 (List.mem_of_getElem? (i := 72) rfl) rfl
theorem mw_257 : Cond.methodLink RL 76 yL_print ∈ ws0 := ws0_3 (List.mem_of_getElem? (i := 65) rfl) rfl
theorem mw_258 : Cond.static yL_print ∈ ws0 := ws0_3 (List.mem_of_getElem? (i := 66) rfl) rfl
theorem mw_259 : Cond.code yL_print cL_print 4 (some .long) ∈ ws0 := ws0_3 (List.mem_of_getElem? (i := 67) rfl) rfl
theorem mw_260 : Cond.constantLong RL 72 (17) ∈ ws0 := ws0_3 (List.mem_of_getElem? (i := 68) rfl) rfl
theorem mw_261 : Cond.constantLong RL 74 (31) ∈ ws0 := ws0_3 (List.mem_of_getElem? (i := 69) rfl) rfl
theorem mw_262 : Cond.methodLink RL 80 yX7_wouldPass ∈ ws0 := ws0_3 (List.mem_of_getElem? (i := 73) rfl) rfl
theorem mw_263 : Cond.instanceMethod yX7_wouldPass ∈ ws0 := ws0_3 (List.mem_of_getElem? (i := 74) rfl) rfl
theorem mw_264 : Cond.selects RX7 yX7_wouldPass yX7_wouldPass ∈ ws0 := ws0_3 (List.mem_of_getElem? (i := 75) rfl) rfl
theorem mw_265 : Cond.code yX7_wouldPass cX7_wouldPass 3 (some .int) ∈ ws0 := ws0_3 (List.mem_of_getElem? (i := 76) rfl) rfl
theorem mw_266 : Cond.fieldLink RX7 204 "HiveBylaws$State" "verdict" "[I" ∈ ws0 := ws0_1 (List.mem_of_getElem? (i := 171) rfl) rfl
theorem mw_267 : Cond.methodLink RX7 39 yX5_copyFrom ∈ ws0 := ws0_2 (List.mem_of_getElem? (i := 35) rfl) rfl
theorem mw_268 : Cond.instanceMethod yX5_copyFrom ∈ ws0 := ws0_2 (List.mem_of_getElem? (i := 36) rfl) rfl
theorem mw_269 : Cond.selects RX5 yX5_copyFrom yX5_copyFrom ∈ ws0 := ws0_2 (List.mem_of_getElem? (i := 37) rfl) rfl
theorem mw_270 : Cond.code yX5_copyFrom cX5_copyFrom 2 none ∈ ws0 := ws0_2 (List.mem_of_getElem? (i := 38) rfl) rfl
theorem mw_271 : Cond.fieldLink RX5 59 "HiveBylaws$State" "day" "I" ∈ ws0 := ws0_1 (List.mem_of_getElem? (i := 162) rfl) rfl
theorem mw_272 : Cond.fieldLink RX5 63 "HiveBylaws$State" "season" "I" ∈ ws0 := ws0_1 (List.mem_of_getElem? (i := 164) rfl) rfl
theorem mw_273 : Cond.fieldLink RX5 66 "HiveBylaws$State" "daysOfSeason" "I" ∈ ws0 := ws0_1 (List.mem_of_getElem? (i := 166) rfl) rfl
theorem mw_274 : Cond.fieldLink RX5 69 "HiveBylaws$State" "repeals" "I" ∈ ws0 := ws0_1 (List.mem_of_getElem? (i := 168) rfl) rfl
theorem mw_275 : Cond.methodLink RX5 46 yX6_copyFrom ∈ ws0 := ws0_2 (List.mem_of_getElem? (i := 39) rfl) rfl
theorem mw_276 : Cond.instanceMethod yX6_copyFrom ∈ ws0 := ws0_2 (List.mem_of_getElem? (i := 40) rfl) rfl
theorem mw_277 : Cond.selects RX6 yX6_copyFrom yX6_copyFrom ∈ ws0 := ws0_2 (List.mem_of_getElem? (i := 41) rfl) rfl
theorem mw_278 : Cond.code yX6_copyFrom cX6_copyFrom 2 none ∈ ws0 := ws0_2 (List.mem_of_getElem? (i := 42) rfl) rfl
theorem mw_279 : Cond.methodLink RX6 31 arraycopyName ∈ ws0 := ws0_2 (List.mem_of_getElem? (i := 43) rfl) rfl
theorem mw_280 : Cond.native arraycopyName ∈ ws0 := ws0_2 (List.mem_of_getElem? (i := 45) rfl) rfl
theorem mw_281 : Cond.static arraycopyName ∈ ws0 := ws0_2 (List.mem_of_getElem? (i := 44) rfl) rfl
theorem mw_282 : Cond.initialized "java/lang/System" ∈ ws0 := ws0_1 (List.mem_of_getElem? (i := 9) rfl) rfl
theorem mw_283 : Cond.methodLink RX5 50 yX1_copyFrom ∈ ws0 := ws0_2 (List.mem_of_getElem? (i := 46) rfl) rfl
theorem mw_284 : Cond.instanceMethod yX1_copyFrom ∈ ws0 := ws0_2 (List.mem_of_getElem? (i := 47) rfl) rfl
theorem mw_285 : Cond.selects RX1 yX1_copyFrom yX1_copyFrom ∈ ws0 := ws0_2 (List.mem_of_getElem? (i := 48) rfl) rfl
theorem mw_286 : Cond.code yX1_copyFrom cX1_copyFrom 2 none ∈ ws0 := ws0_2 (List.mem_of_getElem? (i := 49) rfl) rfl
theorem mw_287 : Cond.methodLink RX1 21 arraycopyName ∈ ws0 := ws0_2 (List.mem_of_getElem? (i := 50) rfl) rfl
theorem mw_288 : Cond.methodLink RX5 53 yX3_copyFrom ∈ ws0 := ws0_2 (List.mem_of_getElem? (i := 51) rfl) rfl
theorem mw_289 : Cond.instanceMethod yX3_copyFrom ∈ ws0 := ws0_2 (List.mem_of_getElem? (i := 52) rfl) rfl
theorem mw_290 : Cond.selects RX3 yX3_copyFrom yX3_copyFrom ∈ ws0 := ws0_2 (List.mem_of_getElem? (i := 53) rfl) rfl
theorem mw_291 : Cond.code yX3_copyFrom cX3_copyFrom 2 none ∈ ws0 := ws0_2 (List.mem_of_getElem? (i := 54) rfl) rfl
theorem mw_292 : Cond.methodLink RX3 34 arraycopyName ∈ ws0 := ws0_2 (List.mem_of_getElem? (i := 55) rfl) rfl
theorem mw_293 : Cond.methodLink RX5 56 yX4_copyFrom ∈ ws0 := ws0_2 (List.mem_of_getElem? (i := 56) rfl) rfl
theorem mw_294 : Cond.instanceMethod yX4_copyFrom ∈ ws0 := ws0_2 (List.mem_of_getElem? (i := 57) rfl) rfl
theorem mw_295 : Cond.selects RX4 yX4_copyFrom yX4_copyFrom ∈ ws0 := ws0_2 (List.mem_of_getElem? (i := 58) rfl) rfl
theorem mw_296 : Cond.code yX4_copyFrom cX4_copyFrom 2 none ∈ ws0 := ws0_2 (List.mem_of_getElem? (i := 59) rfl) rfl
theorem mw_297 : Cond.fieldLink RX4 24 "HiveBylaws$Refusals" "size" "I" ∈ ws0 := ws0_1 (List.mem_of_getElem? (i := 136) rfl) rfl
theorem mw_298 : Cond.methodLink RX4 28 arraycopyName ∈ ws0 := ws0_2 (List.mem_of_getElem? (i := 60) rfl) rfl
theorem mw_299 : Cond.methodLink RX7 201 yX5_hearPetitions ∈ ws0 := ws0_3 (List.mem_of_getElem? (i := 77) rfl) rfl
theorem mw_300 : Cond.instanceMethod yX5_hearPetitions ∈ ws0 := ws0_2 (List.mem_of_getElem? (i := 218) rfl) rfl
theorem mw_301 : Cond.selects RX5 yX5_hearPetitions yX5_hearPetitions ∈ ws0 := ws0_2 (List.mem_of_getElem? (i := 219) rfl) rfl
theorem mw_302 : Cond.code yX5_hearPetitions cX5_hearPetitions 5 (some .int) ∈ ws0 := ws0_2 (List.mem_of_getElem? (i := 220) rfl) rfl
theorem mw_303 : Cond.fieldLink RX5 99 "HiveBylaws$Petitions" "size" "I" ∈ ws0 := ws0_1 (List.mem_of_getElem? (i := 91) rfl) rfl
theorem mw_304 : Cond.fieldLink RX5 118 "HiveBylaws$Petitions" "support" "[I" ∈ ws0 := ws0_1 (List.mem_of_getElem? (i := 110) rfl) rfl
theorem mw_305 : Cond.methodLink RX5 139 yX3_atRank ∈ ws0 := ws0_2 (List.mem_of_getElem? (i := 221) rfl) rfl
theorem mw_306 : Cond.methodLink RX5 142 yX5_reasonToRefuse ∈ ws0 := ws0_2 (List.mem_of_getElem? (i := 229) rfl) rfl
theorem mw_307 : Cond.instanceMethod yX5_reasonToRefuse ∈ ws0 := ws0_2 (List.mem_of_getElem? (i := 230) rfl) rfl
theorem mw_308 : Cond.selects RX5 yX5_reasonToRefuse yX5_reasonToRefuse ∈ ws0 := ws0_2 (List.mem_of_getElem? (i := 231) rfl) rfl
theorem mw_309 : Cond.code yX5_reasonToRefuse cX5_reasonToRefuse 8 (some .int) ∈ ws0 := ws0_2 (List.mem_of_getElem? (i := 232) rfl) rfl
theorem mw_310 : Cond.fieldLink RX5 149 "HiveBylaws$Petitions" "place" "[I" ∈ ws0 := ws0_1 (List.mem_of_getElem? (i := 98) rfl) rfl
theorem mw_311 : Cond.fieldLink RX5 152 "HiveBylaws$Petitions" "doing" "[I" ∈ ws0 := ws0_1 (List.mem_of_getElem? (i := 102) rfl) rfl
theorem mw_312 : Cond.fieldLink RX5 155 "HiveBylaws$Petitions" "kind" "[I" ∈ ws0 := ws0_1 (List.mem_of_getElem? (i := 106) rfl) rfl
theorem mw_313 : Cond.methodLink RX5 158 yX4_greatestSupport ∈ ws0 := ws0_2 (List.mem_of_getElem? (i := 233) rfl) rfl
theorem mw_314 : Cond.instanceMethod yX4_greatestSupport ∈ ws0 := ws0_2 (List.mem_of_getElem? (i := 234) rfl) rfl
theorem mw_315 : Cond.selects RX4 yX4_greatestSupport yX4_greatestSupport ∈ ws0 := ws0_2 (List.mem_of_getElem? (i := 235) rfl) rfl
theorem mw_316 : Cond.code yX4_greatestSupport cX4_greatestSupport 7 (some .int) ∈ ws0 := ws0_2 (List.mem_of_getElem? (i := 236) rfl) rfl
theorem mw_317 : Cond.methodLink RX5 162 yX1_strengthOf ∈ ws0 := ws0_2 (List.mem_of_getElem? (i := 237) rfl) rfl
theorem mw_318 : Cond.methodLink RX5 165 yX6_weightAt ∈ ws0 := ws0_2 (List.mem_of_getElem? (i := 238) rfl) rfl
theorem mw_319 : Cond.methodLink RX5 168 yX1_stanceOf ∈ ws0 := ws0_3 (List.mem_of_getElem? (i := 2) rfl) rfl
theorem mw_320 : Cond.methodLink RX5 145 yX5_grant ∈ ws0 := ws0_3 (List.mem_of_getElem? (i := 3) rfl) rfl
theorem mw_321 : Cond.instanceMethod yX5_grant ∈ ws0 := ws0_3 (List.mem_of_getElem? (i := 5) rfl) rfl
theorem mw_322 : Cond.selects RX5 yX5_grant yX5_grant ∈ ws0 := ws0_p (n := 10) (ws0_q1 (List.mem_of_getElem? (i := 3) rfl))
theorem mw_323 : Cond.code yX5_grant cX5_grant 3 none ∈ ws0 := ws0_3 (List.mem_of_getElem? (i := 6) rfl) rfl
theorem mw_324 : Cond.fieldLink RX5 171 "HiveBylaws$Laws" "strength" "[I" ∈ ws0 := ws0_1 (List.mem_of_getElem? (i := 72) rfl) rfl
theorem mw_325 : Cond.fieldLink RX5 174 "HiveBylaws$Laws" "stance" "[I" ∈ ws0 := ws0_1 (List.mem_of_getElem? (i := 69) rfl) rfl
theorem mw_326 : Cond.fieldLink RX5 177 "HiveBylaws$Laws" "season" "[I" ∈ ws0 := ws0_1 (List.mem_of_getElem? (i := 75) rfl) rfl
theorem mw_327 : Cond.methodLink RL 83 yX7_reason ∈ ws0 := ws0_3 (List.mem_of_getElem? (i := 78) rfl) rfl
theorem mw_328 : Cond.instanceMethod yX7_reason ∈ ws0 := ws0_3 (List.mem_of_getElem? (i := 79) rfl) rfl
theorem mw_329 : Cond.selects RX7 yX7_reason yX7_reason ∈ ws0 := ws0_3 (List.mem_of_getElem? (i := 80) rfl) rfl
theorem mw_330 : Cond.code yX7_reason cX7_reason 2 (some .int) ∈ ws0 := ws0_3 (List.mem_of_getElem? (i := 81) rfl) rfl
theorem mw_331 : Cond.methodLink RL 37 yX7_pass ∈ ws0 := ws0_2 (List.mem_of_getElem? (i := 204) rfl) rfl
theorem mw_332 : Cond.instanceMethod yX7_pass ∈ ws0 := ws0_2 (List.mem_of_getElem? (i := 205) rfl) rfl
theorem mw_333 : Cond.selects RX7 yX7_pass yX7_pass ∈ ws0 := ws0_2 (List.mem_of_getElem? (i := 206) rfl) rfl
theorem mw_334 : Cond.code yX7_pass cX7_pass 2 (some .int) ∈ ws0 := ws0_2 (List.mem_of_getElem? (i := 207) rfl) rfl
theorem mw_335 : Cond.methodLink RX7 61 yX5_endDays ∈ ws0 := ws0_2 (List.mem_of_getElem? (i := 208) rfl) rfl
theorem mw_336 : Cond.instanceMethod yX5_endDays ∈ ws0 := ws0_2 (List.mem_of_getElem? (i := 209) rfl) rfl
theorem mw_337 : Cond.selects RX5 yX5_endDays yX5_endDays ∈ ws0 := ws0_2 (List.mem_of_getElem? (i := 210) rfl) rfl
theorem mw_338 : Cond.code yX5_endDays cX5_endDays 4 (some .int) ∈ ws0 := ws0_2 (List.mem_of_getElem? (i := 211) rfl) rfl
theorem mw_339 : Cond.constant RX5 121 (99999) ∈ ws0 := ws0_2 (List.mem_of_getElem? (i := 212) rfl) rfl
theorem mw_340 : Cond.methodLink RX5 122 yX5_endSeason ∈ ws0 := ws0_2 (List.mem_of_getElem? (i := 213) rfl) rfl
theorem mw_341 : Cond.instanceMethod yX5_endSeason ∈ ws0 := ws0_2 (List.mem_of_getElem? (i := 215) rfl) rfl
theorem mw_342 : Cond.selects RX5 yX5_endSeason yX5_endSeason ∈ ws0 := ws0_p (n := 10) (ws0_q1 (List.mem_of_getElem? (i := 1) rfl))
theorem mw_343 : Cond.code yX5_endSeason cX5_endSeason 4 (some .int) ∈ ws0 := ws0_2 (List.mem_of_getElem? (i := 216) rfl) rfl
theorem mw_344 : Cond.fieldLink RX5 129 "HiveBylaws$Refusals" "size" "I" ∈ ws0 := ws0_1 (List.mem_of_getElem? (i := 137) rfl) rfl
theorem mw_345 : Cond.fieldLink RX5 112 "HiveBylaws$Petitions" "drone" "[I" ∈ ws0 := ws0_1 (List.mem_of_getElem? (i := 94) rfl) rfl
theorem mw_346 : Cond.fieldLink RX5 130 "HiveBylaws$Swarm" "passed" "[I" ∈ ws0 := ws0_1 (List.mem_of_getElem? (i := 43) rfl) rfl
theorem mw_347 : Cond.fieldLink RX5 133 "HiveBylaws$Swarm" "refused" "[I" ∈ ws0 := ws0_1 (List.mem_of_getElem? (i := 46) rfl) rfl
theorem mw_348 : Cond.methodLink RX5 126 yX5_hearPetitions ∈ ws0 := ws0_2 (List.mem_of_getElem? (i := 217) rfl) rfl
theorem mw_349 : Cond.methodLink RX5 136 yX4_add ∈ ws0 := ws0_3 (List.mem_of_getElem? (i := 7) rfl) rfl
theorem mw_350 : Cond.instanceMethod yX4_add ∈ ws0 := ws0_3 (List.mem_of_getElem? (i := 8) rfl) rfl
theorem mw_351 : Cond.selects RX4 yX4_add yX4_add ∈ ws0 := ws0_3 (List.mem_of_getElem? (i := 9) rfl) rfl
theorem mw_352 : Cond.code yX4_add cX4_add 3 none ∈ ws0 := ws0_3 (List.mem_of_getElem? (i := 10) rfl) rfl
theorem mw_353 : Cond.fieldLink RX4 34 "HiveBylaws$Petitions" "place" "[I" ∈ ws0 := ws0_1 (List.mem_of_getElem? (i := 97) rfl) rfl
theorem mw_354 : Cond.fieldLink RX4 37 "HiveBylaws$Petitions" "doing" "[I" ∈ ws0 := ws0_1 (List.mem_of_getElem? (i := 101) rfl) rfl
theorem mw_355 : Cond.fieldLink RX4 38 "HiveBylaws$Petitions" "kind" "[I" ∈ ws0 := ws0_1 (List.mem_of_getElem? (i := 105) rfl) rfl
theorem mw_356 : Cond.fieldLink RX4 39 "HiveBylaws$Petitions" "support" "[I" ∈ ws0 := ws0_1 (List.mem_of_getElem? (i := 109) rfl) rfl
theorem mw_357 : Cond.methodLink RX7 47 yX7_recorded ∈ ws0 := ws0_2 (List.mem_of_getElem? (i := 72) rfl) rfl
theorem mw_358 : Cond.instanceMethod yX7_recorded ∈ ws0 := ws0_2 (List.mem_of_getElem? (i := 74) rfl) rfl
theorem mw_359 : Cond.selects RX7 yX7_recorded yX7_recorded ∈ ws0 := ws0_p (n := 9) (ws0_q1 (List.mem_of_getElem? (i := 0) rfl))
theorem mw_360 : Cond.code yX7_recorded cX7_recorded 2 (some .int) ∈ ws0 := ws0_2 (List.mem_of_getElem? (i := 75) rfl) rfl
theorem mw_361 : Cond.methodLink RX7 250 yX0_remember ∈ ws0 := ws0_2 (List.mem_of_getElem? (i := 76) rfl) rfl
theorem mw_362 : Cond.instanceMethod yX0_remember ∈ ws0 := ws0_2 (List.mem_of_getElem? (i := 77) rfl) rfl
theorem mw_363 : Cond.selects RX0 yX0_remember yX0_remember ∈ ws0 := ws0_2 (List.mem_of_getElem? (i := 78) rfl) rfl
theorem mw_364 : Cond.code yX0_remember cX0_remember 2 none ∈ ws0 := ws0_2 (List.mem_of_getElem? (i := 79) rfl) rfl
theorem mw_365 : Cond.fieldLink RX0 18 "HiveBylaws$History" "size" "I" ∈ ws0 := ws0_1 (List.mem_of_getElem? (i := 204) rfl) rfl
theorem mw_366 : Cond.fieldLink RX0 22 "HiveBylaws$History" "first" "I" ∈ ws0 := ws0_1 (List.mem_of_getElem? (i := 203) rfl) rfl
theorem mw_367 : Cond.methodLink RX0 25 yX5_copyFrom ∈ ws0 := ws0_2 (List.mem_of_getElem? (i := 80) rfl) rfl
theorem mw_368 : Cond.methodLink RL 89 yX7_undo ∈ ws0 := ws0_2 (List.mem_of_getElem? (i := 81) rfl) rfl
theorem mw_369 : Cond.instanceMethod yX7_undo ∈ ws0 := ws0_2 (List.mem_of_getElem? (i := 82) rfl) rfl
theorem mw_370 : Cond.selects RX7 yX7_undo yX7_undo ∈ ws0 := ws0_2 (List.mem_of_getElem? (i := 83) rfl) rfl
theorem mw_371 : Cond.code yX7_undo cX7_undo 1 (some .int) ∈ ws0 := ws0_2 (List.mem_of_getElem? (i := 84) rfl) rfl
theorem mw_372 : Cond.methodLink RX7 91 yX0_takeBack ∈ ws0 := ws0_2 (List.mem_of_getElem? (i := 85) rfl) rfl
theorem mw_373 : Cond.instanceMethod yX0_takeBack ∈ ws0 := ws0_2 (List.mem_of_getElem? (i := 86) rfl) rfl
theorem mw_374 : Cond.selects RX0 yX0_takeBack yX0_takeBack ∈ ws0 := ws0_2 (List.mem_of_getElem? (i := 87) rfl) rfl
theorem mw_375 : Cond.code yX0_takeBack cX0_takeBack 2 (some .int) ∈ ws0 := ws0_2 (List.mem_of_getElem? (i := 88) rfl) rfl
theorem mw_376 : Cond.methodLink RL 99 yL_cell ∈ ws0 := ws0_2 (List.mem_of_getElem? (i := 128) rfl) rfl
theorem mw_377 : Cond.static yL_cell ∈ ws0 := ws0_2 (List.mem_of_getElem? (i := 129) rfl) rfl
theorem mw_378 : Cond.code yL_cell cL_cell 2 (some .int) ∈ ws0 := ws0_2 (List.mem_of_getElem? (i := 130) rfl) rfl
theorem mw_379 : Cond.constant RL 7 (1063091091) ∈ ws0 := ws0_2 (List.mem_of_getElem? (i := 131) rfl) rfl
theorem mw_380 : Cond.constant RL 8 (457006963) ∈ ws0 := ws0_2 (List.mem_of_getElem? (i := 132) rfl) rfl
theorem mw_381 : Cond.methodLink RL 10 yL_low ∈ ws0 := ws0_2 (List.mem_of_getElem? (i := 133) rfl) rfl
theorem mw_382 : Cond.static yL_low ∈ ws0 := ws0_2 (List.mem_of_getElem? (i := 134) rfl) rfl
theorem mw_383 : Cond.code yL_low cL_low 2 (some .int) ∈ ws0 := ws0_2 (List.mem_of_getElem? (i := 135) rfl) rfl
theorem mw_384 : Cond.constant RL 9 (2147483647) ∈ ws0 := ws0_2 (List.mem_of_getElem? (i := 136) rfl) rfl
theorem mw_385 : Cond.methodLink RL 16 yX7_come ∈ ws0 := ws0_2 (List.mem_of_getElem? (i := 31) rfl) rfl
theorem mw_386 : Cond.instanceMethod yX7_come ∈ ws0 := ws0_2 (List.mem_of_getElem? (i := 32) rfl) rfl
theorem mw_387 : Cond.selects RX7 yX7_come yX7_come ∈ ws0 := ws0_2 (List.mem_of_getElem? (i := 33) rfl) rfl
theorem mw_388 : Cond.code yX7_come cX7_come 3 (some .int) ∈ ws0 := ws0_2 (List.mem_of_getElem? (i := 34) rfl) rfl
theorem mw_389 : Cond.methodLink RX7 43 yX5_addDrone ∈ ws0 := ws0_2 (List.mem_of_getElem? (i := 61) rfl) rfl
theorem mw_390 : Cond.instanceMethod yX5_addDrone ∈ ws0 := ws0_2 (List.mem_of_getElem? (i := 62) rfl) rfl
theorem mw_391 : Cond.selects RX5 yX5_addDrone yX5_addDrone ∈ ws0 := ws0_2 (List.mem_of_getElem? (i := 63) rfl) rfl
theorem mw_392 : Cond.code yX5_addDrone cX5_addDrone 3 (some .int) ∈ ws0 := ws0_2 (List.mem_of_getElem? (i := 64) rfl) rfl
theorem mw_393 : Cond.fieldLink RX5 76 "HiveBylaws$Swarm" "size" "I" ∈ ws0 := ws0_1 (List.mem_of_getElem? (i := 31) rfl) rfl
theorem mw_394 : Cond.methodLink RX5 79 yX6_add ∈ ws0 := ws0_2 (List.mem_of_getElem? (i := 68) rfl) rfl
theorem mw_395 : Cond.instanceMethod yX6_add ∈ ws0 := ws0_2 (List.mem_of_getElem? (i := 69) rfl) rfl
theorem mw_396 : Cond.selects RX6 yX6_add yX6_add ∈ ws0 := ws0_2 (List.mem_of_getElem? (i := 70) rfl) rfl
theorem mw_397 : Cond.code yX6_add cX6_add 3 (some .int) ∈ ws0 := ws0_2 (List.mem_of_getElem? (i := 71) rfl) rfl
theorem mw_398 : Cond.methodLink RL 103 yL_act ∈ ws0 := ws0_2 (List.mem_of_getElem? (i := 137) rfl) rfl
theorem mw_399 : Cond.static yL_act ∈ ws0 := ws0_2 (List.mem_of_getElem? (i := 138) rfl) rfl
theorem mw_400 : Cond.code yL_act cL_act 5 (some .int) ∈ ws0 := ws0_2 (List.mem_of_getElem? (i := 139) rfl) rfl
theorem mw_401 : Cond.methodLink RL 21 yX7_move ∈ ws0 := ws0_2 (List.mem_of_getElem? (i := 140) rfl) rfl
theorem mw_402 : Cond.instanceMethod yX7_move ∈ ws0 := ws0_2 (List.mem_of_getElem? (i := 141) rfl) rfl
theorem mw_403 : Cond.selects RX7 yX7_move yX7_move ∈ ws0 := ws0_2 (List.mem_of_getElem? (i := 142) rfl) rfl
theorem mw_404 : Cond.code yX7_move cX7_move 3 (some .int) ∈ ws0 := ws0_2 (List.mem_of_getElem? (i := 143) rfl) rfl
theorem mw_405 : Cond.methodLink RX7 51 yX5_moveDrone ∈ ws0 := ws0_2 (List.mem_of_getElem? (i := 144) rfl) rfl
theorem mw_406 : Cond.instanceMethod yX5_moveDrone ∈ ws0 := ws0_2 (List.mem_of_getElem? (i := 145) rfl) rfl
theorem mw_407 : Cond.selects RX5 yX5_moveDrone yX5_moveDrone ∈ ws0 := ws0_2 (List.mem_of_getElem? (i := 146) rfl) rfl
theorem mw_408 : Cond.code yX5_moveDrone cX5_moveDrone 4 (some .int) ∈ ws0 := ws0_2 (List.mem_of_getElem? (i := 147) rfl) rfl
theorem mw_409 : Cond.fieldLink RX5 86 "HiveBylaws$Swarm" "comb" "[I" ∈ ws0 := ws0_1 (List.mem_of_getElem? (i := 34) rfl) rfl
theorem mw_410 : Cond.methodLink RX5 83 yX6_knows ∈ ws0 := ws0_2 (List.mem_of_getElem? (i := 148) rfl) rfl
theorem mw_411 : Cond.methodLink RL 27 yX7_petition ∈ ws0 := ws0_2 (List.mem_of_getElem? (i := 165) rfl) rfl
theorem mw_412 : Cond.instanceMethod yX7_petition ∈ ws0 := ws0_2 (List.mem_of_getElem? (i := 166) rfl) rfl
theorem mw_413 : Cond.selects RX7 yX7_petition yX7_petition ∈ ws0 := ws0_2 (List.mem_of_getElem? (i := 167) rfl) rfl
theorem mw_414 : Cond.code yX7_petition cX7_petition 5 (some .int) ∈ ws0 := ws0_2 (List.mem_of_getElem? (i := 168) rfl) rfl
theorem mw_415 : Cond.methodLink RX7 54 yX5_addPetition ∈ ws0 := ws0_2 (List.mem_of_getElem? (i := 169) rfl) rfl
theorem mw_416 : Cond.instanceMethod yX5_addPetition ∈ ws0 := ws0_2 (List.mem_of_getElem? (i := 170) rfl) rfl
theorem mw_417 : Cond.selects RX5 yX5_addPetition yX5_addPetition ∈ ws0 := ws0_2 (List.mem_of_getElem? (i := 171) rfl) rfl
theorem mw_418 : Cond.code yX5_addPetition cX5_addPetition 6 (some .int) ∈ ws0 := ws0_2 (List.mem_of_getElem? (i := 172) rfl) rfl
theorem mw_419 : Cond.fieldLink RX5 100 "HiveBylaws$Swarm" "made" "[I" ∈ ws0 := ws0_1 (List.mem_of_getElem? (i := 40) rfl) rfl
theorem mw_420 : Cond.fieldLink RX5 103 "HiveBylaws$Swarm" "weight" "[I" ∈ ws0 := ws0_1 (List.mem_of_getElem? (i := 37) rfl) rfl
theorem mw_421 : Cond.static yX7_isPlace ∈ ws0 := ws0_2 (List.mem_of_getElem? (i := 174) rfl) rfl
theorem mw_422 : Cond.code yX7_isPlace cX7_isPlace 1 (some .boolean) ∈ ws0 := ws0_2 (List.mem_of_getElem? (i := 175) rfl) rfl
theorem mw_423 : Cond.methodLink RX5 95 yX3_madeBy ∈ ws0 := ws0_2 (List.mem_of_getElem? (i := 179) rfl) rfl
theorem mw_424 : Cond.methodLink RX5 106 yX3_add ∈ ws0 := ws0_2 (List.mem_of_getElem? (i := 180) rfl) rfl
theorem mw_425 : Cond.instanceMethod yX3_add ∈ ws0 := ws0_2 (List.mem_of_getElem? (i := 181) rfl) rfl
theorem mw_426 : Cond.selects RX3 yX3_add yX3_add ∈ ws0 := ws0_2 (List.mem_of_getElem? (i := 182) rfl) rfl
theorem mw_427 : Cond.code yX3_add cX3_add 6 (some .int) ∈ ws0 := ws0_2 (List.mem_of_getElem? (i := 183) rfl) rfl
theorem mw_428 : Cond.methodLink RL 31 yX7_second ∈ ws0 := ws0_2 (List.mem_of_getElem? (i := 184) rfl) rfl
theorem mw_429 : Cond.instanceMethod yX7_second ∈ ws0 := ws0_2 (List.mem_of_getElem? (i := 185) rfl) rfl
theorem mw_430 : Cond.selects RX7 yX7_second yX7_second ∈ ws0 := ws0_2 (List.mem_of_getElem? (i := 186) rfl) rfl
theorem mw_431 : Cond.code yX7_second cX7_second 3 (some .int) ∈ ws0 := ws0_2 (List.mem_of_getElem? (i := 187) rfl) rfl
theorem mw_432 : Cond.methodLink RX7 58 yX5_addSeconder ∈ ws0 := ws0_2 (List.mem_of_getElem? (i := 188) rfl) rfl
theorem mw_433 : Cond.instanceMethod yX5_addSeconder ∈ ws0 := ws0_2 (List.mem_of_getElem? (i := 189) rfl) rfl
theorem mw_434 : Cond.selects RX5 yX5_addSeconder yX5_addSeconder ∈ ws0 := ws0_2 (List.mem_of_getElem? (i := 190) rfl) rfl
theorem mw_435 : Cond.code yX5_addSeconder cX5_addSeconder 4 (some .int) ∈ ws0 := ws0_2 (List.mem_of_getElem? (i := 191) rfl) rfl
theorem mw_436 : Cond.fieldLink RX5 115 "HiveBylaws$Petitions" "seconders" "[I" ∈ ws0 := ws0_1 (List.mem_of_getElem? (i := 113) rfl) rfl
theorem mw_437 : Cond.methodLink RX5 109 yX3_has ∈ ws0 := ws0_2 (List.mem_of_getElem? (i := 192) rfl) rfl
theorem mw_438 : Cond.methodLink RL 34 yX7_set ∈ ws0 := ws0_2 (List.mem_of_getElem? (i := 196) rfl) rfl
theorem mw_439 : Cond.instanceMethod yX7_set ∈ ws0 := ws0_2 (List.mem_of_getElem? (i := 197) rfl) rfl
theorem mw_440 : Cond.selects RX7 yX7_set yX7_set ∈ ws0 := ws0_2 (List.mem_of_getElem? (i := 198) rfl) rfl
theorem mw_441 : Cond.code yX7_set cX7_set 3 (some .int) ∈ ws0 := ws0_2 (List.mem_of_getElem? (i := 199) rfl) rfl
theorem mw_442 : Cond.methodLink RX7 64 yX5_changeSetting ∈ ws0 := ws0_2 (List.mem_of_getElem? (i := 200) rfl) rfl
theorem mw_443 : Cond.instanceMethod yX5_changeSetting ∈ ws0 := ws0_2 (List.mem_of_getElem? (i := 201) rfl) rfl
theorem mw_444 : Cond.selects RX5 yX5_changeSetting yX5_changeSetting ∈ ws0 := ws0_2 (List.mem_of_getElem? (i := 202) rfl) rfl
theorem mw_445 : Cond.code yX5_changeSetting cX5_changeSetting 5 (some .int) ∈ ws0 := ws0_2 (List.mem_of_getElem? (i := 203) rfl) rfl
theorem mw_446 : Cond.methodLink RL 107 yL_first ∈ ws0 := ws0_3 (List.mem_of_getElem? (i := 82) rfl) rfl
theorem mw_447 : Cond.static yL_first ∈ ws0 := ws0_3 (List.mem_of_getElem? (i := 83) rfl) rfl
theorem mw_448 : Cond.code yL_first cL_first 7 (some .boolean) ∈ ws0 := ws0_3 (List.mem_of_getElem? (i := 84) rfl) rfl
theorem mw_449 : Cond.methodLink RL 92 yX7_lacks ∈ ws0 := ws0_3 (List.mem_of_getElem? (i := 85) rfl) rfl
theorem mw_450 : Cond.instanceMethod yX7_lacks ∈ ws0 := ws0_3 (List.mem_of_getElem? (i := 86) rfl) rfl
theorem mw_451 : Cond.selects RX7 yX7_lacks yX7_lacks ∈ ws0 := ws0_3 (List.mem_of_getElem? (i := 87) rfl) rfl
theorem mw_452 : Cond.code yX7_lacks cX7_lacks 4 (some .int) ∈ ws0 := ws0_3 (List.mem_of_getElem? (i := 88) rfl) rfl
theorem mw_453 : Cond.methodLink RX7 209 yX5_reasonToRefuse ∈ ws0 := ws0_3 (List.mem_of_getElem? (i := 89) rfl) rfl
theorem in0_X0 : ∀ w ∈ wsX00, w ∈ ws0 := by
  intro w hw
  obtain ⟨k, hk, rfl⟩ := List.mem_map.mp hw
  have hk := List.mem_range.mp hk
  match k, hk with
  | 0, _ => exact ws0_1 (List.mem_of_getElem? (i := 206) rfl) rfl
  | 1, _ => exact ws0_1 (List.mem_of_getElem? (i := 208) rfl) rfl
  | 2, _ => exact ws0_1 (List.mem_of_getElem? (i := 210) rfl) rfl
  | k + 3, hk => omega
theorem in0_X1 : ∀ w ∈ wsX10, w ∈ ws0 := by
  intro w hw
  obtain ⟨k, hk, rfl⟩ := List.mem_map.mp hw
  have hk := List.mem_range.mp hk
  match k, hk with
  | 0, _ => exact ws0_1 (List.mem_of_getElem? (i := 77) rfl) rfl
  | 1, _ => exact ws0_1 (List.mem_of_getElem? (i := 79) rfl) rfl
  | 2, _ => exact ws0_1 (List.mem_of_getElem? (i := 81) rfl) rfl
  | k + 3, hk => omega
theorem in0_X2 : ∀ w ∈ wsX20, w ∈ ws0 := by
  intro w hw
  obtain ⟨k, hk, rfl⟩ := List.mem_map.mp hw
  have hk := List.mem_range.mp hk
  match k, hk with
  | 0, _ => exact ws0_1 (List.mem_of_getElem? (i := 226) rfl) rfl
  | 1, _ => exact ws0_1 (List.mem_of_getElem? (i := 228) rfl) rfl
  | 2, _ => exact ws0_1 (List.mem_of_getElem? (i := 230) rfl) rfl
  | 3, _ => exact ws0_1 (List.mem_of_getElem? (i := 232) rfl) rfl
  | 4, _ => exact ws0_1 (List.mem_of_getElem? (i := 234) rfl) rfl
  | 5, _ => exact ws0_1 (List.mem_of_getElem? (i := 236) rfl) rfl
  | 6, _ => exact ws0_1 (List.mem_of_getElem? (i := 238) rfl) rfl
  | 7, _ => exact ws0_2 (List.mem_of_getElem? (i := 0) rfl) rfl
  | 8, _ => exact ws0_2 (List.mem_of_getElem? (i := 2) rfl) rfl
  | k + 9, hk => omega
theorem in0_X3 : ∀ w ∈ wsX30, w ∈ ws0 := by
  intro w hw
  obtain ⟨k, hk, rfl⟩ := List.mem_map.mp hw
  have hk := List.mem_range.mp hk
  match k, hk with
  | 0, _ => exact ws0_1 (List.mem_of_getElem? (i := 115) rfl) rfl
  | 1, _ => exact ws0_1 (List.mem_of_getElem? (i := 117) rfl) rfl
  | 2, _ => exact ws0_1 (List.mem_of_getElem? (i := 119) rfl) rfl
  | 3, _ => exact ws0_1 (List.mem_of_getElem? (i := 121) rfl) rfl
  | 4, _ => exact ws0_1 (List.mem_of_getElem? (i := 123) rfl) rfl
  | 5, _ => exact ws0_1 (List.mem_of_getElem? (i := 125) rfl) rfl
  | 6, _ => exact ws0_1 (List.mem_of_getElem? (i := 127) rfl) rfl
  | k + 7, hk => omega
theorem in0_X4 : ∀ w ∈ wsX40, w ∈ ws0 := by
  intro w hw
  obtain ⟨k, hk, rfl⟩ := List.mem_map.mp hw
  have hk := List.mem_range.mp hk
  match k, hk with
  | 0, _ => exact ws0_1 (List.mem_of_getElem? (i := 142) rfl) rfl
  | 1, _ => exact ws0_1 (List.mem_of_getElem? (i := 144) rfl) rfl
  | 2, _ => exact ws0_1 (List.mem_of_getElem? (i := 146) rfl) rfl
  | 3, _ => exact ws0_1 (List.mem_of_getElem? (i := 148) rfl) rfl
  | 4, _ => exact ws0_1 (List.mem_of_getElem? (i := 150) rfl) rfl
  | k + 5, hk => omega
theorem in0_X5 : ∀ w ∈ wsX50, w ∈ ws0 := by
  intro w hw
  obtain ⟨k, hk, rfl⟩ := List.mem_map.mp hw
  have hk := List.mem_range.mp hk
  match k, hk with
  | 0, _ => exact ws0_1 (List.mem_of_getElem? (i := 172) rfl) rfl
  | 1, _ => exact ws0_1 (List.mem_of_getElem? (i := 174) rfl) rfl
  | 2, _ => exact ws0_1 (List.mem_of_getElem? (i := 176) rfl) rfl
  | 3, _ => exact ws0_1 (List.mem_of_getElem? (i := 178) rfl) rfl
  | 4, _ => exact ws0_1 (List.mem_of_getElem? (i := 180) rfl) rfl
  | 5, _ => exact ws0_1 (List.mem_of_getElem? (i := 182) rfl) rfl
  | 6, _ => exact ws0_1 (List.mem_of_getElem? (i := 184) rfl) rfl
  | 7, _ => exact ws0_1 (List.mem_of_getElem? (i := 186) rfl) rfl
  | 8, _ => exact ws0_1 (List.mem_of_getElem? (i := 188) rfl) rfl
  | 9, _ => exact ws0_1 (List.mem_of_getElem? (i := 190) rfl) rfl
  | k + 10, hk => omega
theorem in0_X6 : ∀ w ∈ wsX60, w ∈ ws0 := by
  intro w hw
  obtain ⟨k, hk, rfl⟩ := List.mem_map.mp hw
  have hk := List.mem_range.mp hk
  match k, hk with
  | 0, _ => exact ws0_1 (List.mem_of_getElem? (i := 48) rfl) rfl
  | 1, _ => exact ws0_1 (List.mem_of_getElem? (i := 50) rfl) rfl
  | 2, _ => exact ws0_1 (List.mem_of_getElem? (i := 52) rfl) rfl
  | 3, _ => exact ws0_1 (List.mem_of_getElem? (i := 54) rfl) rfl
  | 4, _ => exact ws0_1 (List.mem_of_getElem? (i := 56) rfl) rfl
  | 5, _ => exact ws0_1 (List.mem_of_getElem? (i := 58) rfl) rfl
  | k + 6, hk => omega
theorem in0_X7 : ∀ w ∈ wsX70, w ∈ ws0 := by
  intro w hw
  obtain ⟨k, hk, rfl⟩ := List.mem_map.mp hw
  have hk := List.mem_range.mp hk
  match k, hk with
  | 0, _ => exact ws0_2 (List.mem_of_getElem? (i := 12) rfl) rfl
  | 1, _ => exact ws0_2 (List.mem_of_getElem? (i := 14) rfl) rfl
  | 2, _ => exact ws0_2 (List.mem_of_getElem? (i := 16) rfl) rfl
  | 3, _ => exact ws0_2 (List.mem_of_getElem? (i := 18) rfl) rfl
  | 4, _ => exact ws0_2 (List.mem_of_getElem? (i := 20) rfl) rfl
  | 5, _ => exact ws0_2 (List.mem_of_getElem? (i := 22) rfl) rfl
  | 6, _ => exact ws0_2 (List.mem_of_getElem? (i := 24) rfl) rfl
  | 7, _ => exact ws0_2 (List.mem_of_getElem? (i := 26) rfl) rfl
  | 8, _ => exact ws0_2 (List.mem_of_getElem? (i := 28) rfl) rfl
  | k + 9, hk => omega
