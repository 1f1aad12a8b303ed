/-! the tables' words that go along to every method, and each word that a walk uses, by its place -/
def ws0 : List Cond := lw_tbl.filter goodWord
theorem ws0_tbl : ∀ w ∈ ws0, w ∈ lw_tbl := fun w h => (List.mem_filter.mp h).1
theorem ws0_self : GoodIn ws0 ws0 := fun w h => ⟨h, good_of_word (List.mem_filter.mp h).2⟩
theorem ws0_of {w : Cond} (h : w ∈ lw_tbl) (g : goodWord w = true) : w ∈ ws0 := List.mem_filter.mpr ⟨h, g⟩
theorem ws0_p {y : MethodName} {n : Nat} (h : (y, n) ∈ lw_privs) : Cond.selects y.cls y y ∈ ws0 := ws0_of (List.mem_append_left _ (List.mem_map.mpr ⟨(y, n), h, rfl⟩)) rfl
theorem ws0_1 {w : Cond} (h : w ∈ tables_1_1) (g : goodWord w = true) : w ∈ ws0 := ws0_of (List.mem_append_right _ (show w ∈ tables_1_1 ++ (tables_1_2 ++ (tables_1_3 ++ tables_1_4)) from (List.mem_append_left _ h))) g
theorem ws0_2 {w : Cond} (h : w ∈ tables_1_2) (g : goodWord w = true) : w ∈ ws0 := ws0_of (List.mem_append_right _ (show w ∈ tables_1_1 ++ (tables_1_2 ++ (tables_1_3 ++ tables_1_4)) from (List.mem_append_right _ (List.mem_append_left _ h)))) g
theorem ws0_3 {w : Cond} (h : w ∈ tables_1_3) (g : goodWord w = true) : w ∈ ws0 := ws0_of (List.mem_append_right _ (show w ∈ tables_1_1 ++ (tables_1_2 ++ (tables_1_3 ++ tables_1_4)) from (List.mem_append_right _ (List.mem_append_right _ (List.mem_append_left _ h))))) g
theorem ws0_4 {w : Cond} (h : w ∈ tables_1_4) (g : goodWord w = true) : w ∈ ws0 := ws0_of (List.mem_append_right _ (show w ∈ tables_1_1 ++ (tables_1_2 ++ (tables_1_3 ++ tables_1_4)) from (List.mem_append_right _ (List.mem_append_right _ (List.mem_append_right _ h))))) g
theorem ws0_q1 {q : MethodName × Nat} (h : q ∈ lw_privs_1) : q ∈ lw_privs := (show q ∈ lw_privs_1 ++ (lw_privs_2 ++ lw_privs_3) from (List.mem_append_left _ h))
theorem ws0_q2 {q : MethodName × Nat} (h : q ∈ lw_privs_2) : q ∈ lw_privs := (show q ∈ lw_privs_1 ++ (lw_privs_2 ++ lw_privs_3) from (List.mem_append_right _ (List.mem_append_left _ h)))
theorem ws0_q3 {q : MethodName × Nat} (h : q ∈ lw_privs_3) : q ∈ lw_privs := (show q ∈ lw_privs_1 ++ (lw_privs_2 ++ lw_privs_3) from (List.mem_append_right _ (List.mem_append_right _ h)))
theorem mw_0 : Cond.classLink RL 7 RX7 ∈ ws0 := ws0_1 (List.mem_of_getElem? (i := 11) rfl) rfl
theorem mw_1 : Cond.instantiable RX7 9 ∈ ws0 := ws0_1 (List.mem_of_getElem? (i := 12) rfl) rfl
theorem mw_2 : Cond.initialized RX7 ∈ ws0 := ws0_1 (List.mem_of_getElem? (i := 1) rfl) rfl
theorem mw_3 : Cond.classLink RL 10 RX8 ∈ ws0 := ws0_3 (List.mem_of_getElem? (i := 139) rfl) rfl
theorem mw_4 : Cond.instantiable RX8 15 ∈ ws0 := ws0_3 (List.mem_of_getElem? (i := 140) rfl) rfl
theorem mw_5 : Cond.initialized RX8 ∈ ws0 := ws0_1 (List.mem_of_getElem? (i := 9) rfl) rfl
theorem mw_6 : Cond.methodLink RL 9 yX7_init ∈ ws0 := ws0_1 (List.mem_of_getElem? (i := 13) rfl) rfl
theorem mw_7 : Cond.instanceMethod yX7_init ∈ ws0 := ws0_1 (List.mem_of_getElem? (i := 14) rfl) rfl
theorem mw_8 : Cond.code yX7_init cX7_init 1 none ∈ ws0 := ws0_1 (List.mem_of_getElem? (i := 15) rfl) rfl
theorem mw_9 : Cond.methodLink RX7 3 objectInit ∈ ws0 := ws0_1 (List.mem_of_getElem? (i := 16) rfl) rfl
theorem mw_10 : Cond.instanceMethod objectInit ∈ ws0 := ws0_1 (List.mem_of_getElem? (i := 17) rfl) rfl
theorem mw_11 : Cond.code objectInit ⟨#[0xb1]⟩ 1 none ∈ ws0 := ws0_1 (List.mem_of_getElem? (i := 18) rfl) rfl
theorem mw_12 : Cond.classLink RX7 9 RX5 ∈ ws0 := ws0_1 (List.mem_of_getElem? (i := 19) rfl) rfl
theorem mw_13 : Cond.instantiable RX5 10 ∈ ws0 := ws0_1 (List.mem_of_getElem? (i := 20) rfl) rfl
theorem mw_14 : Cond.initialized RX5 ∈ ws0 := ws0_1 (List.mem_of_getElem? (i := 2) rfl) rfl
theorem mw_15 : Cond.fieldLink RX7 12 "HiveBylaws" "state" "LHiveBylaws$State;" ∈ ws0 := ws0_2 (List.mem_of_getElem? (i := 16) rfl) rfl
theorem mw_16 : Cond.fieldLink RX7 16 "HiveBylaws" "before" "LHiveBylaws$State;" ∈ ws0 := ws0_2 (List.mem_of_getElem? (i := 17) rfl) rfl
theorem mw_17 : Cond.fieldLink RX7 19 "HiveBylaws" "trial" "LHiveBylaws$State;" ∈ ws0 := ws0_2 (List.mem_of_getElem? (i := 18) rfl) rfl
theorem mw_18 : Cond.fieldLink RX7 22 "HiveBylaws" "snapshot" "LHiveBylaws$State;" ∈ ws0 := ws0_2 (List.mem_of_getElem? (i := 19) rfl) rfl
theorem mw_19 : Cond.classLink RX7 25 RX0 ∈ ws0 := ws0_1 (List.mem_of_getElem? (i := 194) rfl) rfl
theorem mw_20 : Cond.instantiable RX0 3 ∈ ws0 := ws0_1 (List.mem_of_getElem? (i := 195) rfl) rfl
theorem mw_21 : Cond.initialized RX0 ∈ ws0 := ws0_1 (List.mem_of_getElem? (i := 7) rfl) rfl
theorem mw_22 : Cond.fieldLink RX7 28 "HiveBylaws" "history" "LHiveBylaws$History;" ∈ ws0 := ws0_2 (List.mem_of_getElem? (i := 21) rfl) rfl
theorem mw_23 : Cond.classLink RX7 32 RX2 ∈ ws0 := ws0_1 (List.mem_of_getElem? (i := 214) rfl) rfl
theorem mw_24 : Cond.instantiable RX2 9 ∈ ws0 := ws0_1 (List.mem_of_getElem? (i := 215) rfl) rfl
theorem mw_25 : Cond.initialized RX2 ∈ ws0 := ws0_1 (List.mem_of_getElem? (i := 8) rfl) rfl
theorem mw_26 : Cond.fieldLink RX7 35 "HiveBylaws" "text" "LHiveBylaws$PetitionText;" ∈ ws0 := ws0_2 (List.mem_of_getElem? (i := 22) rfl) rfl
theorem mw_27 : Cond.methodLink RX7 11 yX5_init ∈ ws0 := ws0_1 (List.mem_of_getElem? (i := 21) rfl) rfl
theorem mw_28 : Cond.instanceMethod yX5_init ∈ ws0 := ws0_1 (List.mem_of_getElem? (i := 22) rfl) rfl
theorem mw_29 : Cond.code yX5_init cX5_init 1 none ∈ ws0 := ws0_1 (List.mem_of_getElem? (i := 23) rfl) rfl
theorem mw_30 : Cond.methodLink RX5 3 objectInit ∈ ws0 := ws0_1 (List.mem_of_getElem? (i := 24) rfl) rfl
theorem mw_31 : Cond.classLink RX5 9 RX6 ∈ ws0 := ws0_1 (List.mem_of_getElem? (i := 25) rfl) rfl
theorem mw_32 : Cond.instantiable RX6 6 ∈ ws0 := ws0_1 (List.mem_of_getElem? (i := 26) rfl) rfl
theorem mw_33 : Cond.initialized RX6 ∈ ws0 := ws0_1 (List.mem_of_getElem? (i := 3) rfl) rfl
theorem mw_34 : Cond.fieldLink RX5 12 "HiveBylaws$State" "swarm" "LHiveBylaws$Swarm;" ∈ ws0 := ws0_1 (List.mem_of_getElem? (i := 154) rfl) rfl
theorem mw_35 : Cond.classLink RX5 18 RX1 ∈ ws0 := ws0_1 (List.mem_of_getElem? (i := 63) rfl) rfl
theorem mw_36 : Cond.instantiable RX1 3 ∈ ws0 := ws0_1 (List.mem_of_getElem? (i := 64) rfl) rfl
theorem mw_37 : Cond.initialized RX1 ∈ ws0 := ws0_1 (List.mem_of_getElem? (i := 4) rfl) rfl
theorem mw_38 : Cond.fieldLink RX5 21 "HiveBylaws$State" "laws" "LHiveBylaws$Laws;" ∈ ws0 := ws0_1 (List.mem_of_getElem? (i := 156) rfl) rfl
theorem mw_39 : Cond.classLink RX5 25 RX3 ∈ ws0 := ws0_1 (List.mem_of_getElem? (i := 85) rfl) rfl
theorem mw_40 : Cond.instantiable RX3 7 ∈ ws0 := ws0_1 (List.mem_of_getElem? (i := 86) rfl) rfl
theorem mw_41 : Cond.initialized RX3 ∈ ws0 := ws0_1 (List.mem_of_getElem? (i := 5) rfl) rfl
theorem mw_42 : Cond.fieldLink RX5 28 "HiveBylaws$State" "petitions" "LHiveBylaws$Petitions;" ∈ ws0 := ws0_1 (List.mem_of_getElem? (i := 158) rfl) rfl
theorem mw_43 : Cond.classLink RX5 32 RX4 ∈ ws0 := ws0_1 (List.mem_of_getElem? (i := 131) rfl) rfl
theorem mw_44 : Cond.instantiable RX4 5 ∈ ws0 := ws0_1 (List.mem_of_getElem? (i := 132) rfl) rfl
theorem mw_45 : Cond.initialized RX4 ∈ ws0 := ws0_1 (List.mem_of_getElem? (i := 6) rfl) rfl
theorem mw_46 : Cond.fieldLink RX5 35 "HiveBylaws$State" "refusals" "LHiveBylaws$Refusals;" ∈ ws0 := ws0_1 (List.mem_of_getElem? (i := 160) rfl) rfl
theorem mw_47 : Cond.arrayClass .int ∈ ws0 := ws0_1 (List.mem_of_getElem? (i := 62) rfl) rfl
theorem mw_48 : Cond.fieldLink RX5 39 "HiveBylaws$State" "setting" "[I" ∈ ws0 := ws0_1 (List.mem_of_getElem? (i := 161) rfl) rfl
theorem mw_49 : Cond.fieldLink RX5 43 "HiveBylaws$State" "verdict" "[I" ∈ ws0 := ws0_1 (List.mem_of_getElem? (i := 171) rfl) rfl
theorem mw_50 : Cond.methodLink RX5 11 yX6_init ∈ ws0 := ws0_1 (List.mem_of_getElem? (i := 27) rfl) rfl
theorem mw_51 : Cond.instanceMethod yX6_init ∈ ws0 := ws0_1 (List.mem_of_getElem? (i := 28) rfl) rfl
theorem mw_52 : Cond.code yX6_init cX6_init 1 none ∈ ws0 := ws0_1 (List.mem_of_getElem? (i := 29) rfl) rfl
theorem mw_53 : Cond.methodLink RX6 3 objectInit ∈ ws0 := ws0_1 (List.mem_of_getElem? (i := 30) rfl) rfl
theorem mw_54 : Cond.fieldLink RX6 9 "HiveBylaws$Swarm" "comb" "[I" ∈ ws0 := ws0_1 (List.mem_of_getElem? (i := 34) rfl) rfl
theorem mw_55 : Cond.fieldLink RX6 15 "HiveBylaws$Swarm" "weight" "[I" ∈ ws0 := ws0_1 (List.mem_of_getElem? (i := 37) rfl) rfl
theorem mw_56 : Cond.fieldLink RX6 18 "HiveBylaws$Swarm" "made" "[I" ∈ ws0 := ws0_1 (List.mem_of_getElem? (i := 40) rfl) rfl
theorem mw_57 : Cond.fieldLink RX6 21 "HiveBylaws$Swarm" "passed" "[I" ∈ ws0 := ws0_1 (List.mem_of_getElem? (i := 43) rfl) rfl
theorem mw_58 : Cond.fieldLink RX6 24 "HiveBylaws$Swarm" "refused" "[I" ∈ ws0 := ws0_1 (List.mem_of_getElem? (i := 46) rfl) rfl
theorem mw_59 : Cond.methodLink RX5 20 yX1_init ∈ ws0 := ws0_1 (List.mem_of_getElem? (i := 65) rfl) rfl
theorem mw_60 : Cond.instanceMethod yX1_init ∈ ws0 := ws0_1 (List.mem_of_getElem? (i := 66) rfl) rfl
theorem mw_61 : Cond.code yX1_init cX1_init 1 none ∈ ws0 := ws0_1 (List.mem_of_getElem? (i := 67) rfl) rfl
theorem mw_62 : Cond.methodLink RX1 3 objectInit ∈ ws0 := ws0_1 (List.mem_of_getElem? (i := 68) rfl) rfl
theorem mw_63 : Cond.fieldLink RX1 9 "HiveBylaws$Laws" "stance" "[I" ∈ ws0 := ws0_1 (List.mem_of_getElem? (i := 69) rfl) rfl
theorem mw_64 : Cond.fieldLink RX1 15 "HiveBylaws$Laws" "strength" "[I" ∈ ws0 := ws0_1 (List.mem_of_getElem? (i := 72) rfl) rfl
theorem mw_65 : Cond.fieldLink RX1 18 "HiveBylaws$Laws" "season" "[I" ∈ ws0 := ws0_1 (List.mem_of_getElem? (i := 75) rfl) rfl
theorem mw_66 : Cond.methodLink RX5 27 yX3_init ∈ ws0 := ws0_1 (List.mem_of_getElem? (i := 87) rfl) rfl
theorem mw_67 : Cond.instanceMethod yX3_init ∈ ws0 := ws0_1 (List.mem_of_getElem? (i := 88) rfl) rfl
theorem mw_68 : Cond.code yX3_init cX3_init 1 none ∈ ws0 := ws0_1 (List.mem_of_getElem? (i := 89) rfl) rfl
theorem mw_69 : Cond.methodLink RX3 3 objectInit ∈ ws0 := ws0_1 (List.mem_of_getElem? (i := 90) rfl) rfl
theorem mw_70 : Cond.fieldLink RX3 9 "HiveBylaws$Petitions" "drone" "[I" ∈ ws0 := ws0_1 (List.mem_of_getElem? (i := 94) rfl) rfl
theorem mw_71 : Cond.fieldLink RX3 15 "HiveBylaws$Petitions" "place" "[I" ∈ ws0 := ws0_1 (List.mem_of_getElem? (i := 97) rfl) rfl
theorem mw_72 : Cond.fieldLink RX3 18 "HiveBylaws$Petitions" "doing" "[I" ∈ ws0 := ws0_1 (List.mem_of_getElem? (i := 101) rfl) rfl
theorem mw_73 : Cond.fieldLink RX3 21 "HiveBylaws$Petitions" "kind" "[I" ∈ ws0 := ws0_1 (List.mem_of_getElem? (i := 105) rfl) rfl
theorem mw_74 : Cond.fieldLink RX3 24 "HiveBylaws$Petitions" "support" "[I" ∈ ws0 := ws0_1 (List.mem_of_getElem? (i := 109) rfl) rfl
theorem mw_75 : Cond.fieldLink RX3 27 "HiveBylaws$Petitions" "seconders" "[I" ∈ ws0 := ws0_1 (List.mem_of_getElem? (i := 113) rfl) rfl
theorem mw_76 : Cond.methodLink RX5 34 yX4_init ∈ ws0 := ws0_1 (List.mem_of_getElem? (i := 133) rfl) rfl
theorem mw_77 : Cond.instanceMethod yX4_init ∈ ws0 := ws0_1 (List.mem_of_getElem? (i := 134) rfl) rfl
theorem mw_78 : Cond.code yX4_init cX4_init 1 none ∈ ws0 := ws0_1 (List.mem_of_getElem? (i := 135) rfl) rfl
theorem mw_79 : Cond.methodLink RX4 3 objectInit ∈ ws0 := ws0_1 (List.mem_of_getElem? (i := 136) rfl) rfl
theorem mw_80 : Cond.fieldLink RX4 9 "HiveBylaws$Refusals" "place" "[I" ∈ ws0 := ws0_1 (List.mem_of_getElem? (i := 139) rfl) rfl
theorem mw_81 : Cond.fieldLink RX4 15 "HiveBylaws$Refusals" "doing" "[I" ∈ ws0 := ws0_1 (List.mem_of_getElem? (i := 140) rfl) rfl
theorem mw_82 : Cond.fieldLink RX4 18 "HiveBylaws$Refusals" "kind" "[I" ∈ ws0 := ws0_1 (List.mem_of_getElem? (i := 141) rfl) rfl
theorem mw_83 : Cond.fieldLink RX4 21 "HiveBylaws$Refusals" "support" "[I" ∈ ws0 := ws0_1 (List.mem_of_getElem? (i := 142) rfl) rfl
theorem mw_84 : Cond.methodLink RX7 27 yX0_init ∈ ws0 := ws0_1 (List.mem_of_getElem? (i := 196) rfl) rfl
theorem mw_85 : Cond.instanceMethod yX0_init ∈ ws0 := ws0_1 (List.mem_of_getElem? (i := 197) rfl) rfl
theorem mw_86 : Cond.code yX0_init cX0_init 2 none ∈ ws0 := ws0_1 (List.mem_of_getElem? (i := 198) rfl) rfl
theorem mw_87 : Cond.methodLink RX0 3 objectInit ∈ ws0 := ws0_1 (List.mem_of_getElem? (i := 199) rfl) rfl
theorem mw_88 : Cond.classLink RX0 9 RX5 ∈ ws0 := ws0_1 (List.mem_of_getElem? (i := 200) rfl) rfl
theorem mw_89 : Cond.fieldLink RX0 11 "HiveBylaws$History" "ring" "[LHiveBylaws$State;" ∈ ws0 := ws0_1 (List.mem_of_getElem? (i := 203) rfl) rfl
theorem mw_90 : Cond.methodLink RX0 17 yX5_init ∈ ws0 := ws0_1 (List.mem_of_getElem? (i := 202) rfl) rfl
theorem mw_91 : Cond.methodLink RX7 34 yX2_init ∈ ws0 := ws0_1 (List.mem_of_getElem? (i := 216) rfl) rfl
theorem mw_92 : Cond.instanceMethod yX2_init ∈ ws0 := ws0_1 (List.mem_of_getElem? (i := 217) rfl) rfl
theorem mw_93 : Cond.code yX2_init cX2_init 1 none ∈ ws0 := ws0_1 (List.mem_of_getElem? (i := 218) rfl) rfl
theorem mw_94 : Cond.methodLink RX2 3 objectInit ∈ ws0 := ws0_1 (List.mem_of_getElem? (i := 219) rfl) rfl
theorem mw_95 : Cond.arrayClass .char ∈ ws0 := ws0_2 (List.mem_of_getElem? (i := 15) rfl) rfl
theorem mw_96 : Cond.fieldLink RX2 9 "HiveBylaws$PetitionText" "characters" "[C" ∈ ws0 := ws0_1 (List.mem_of_getElem? (i := 220) rfl) rfl
theorem mw_97 : Cond.fieldLink RX2 15 "HiveBylaws$PetitionText" "act" "[I" ∈ ws0 := ws0_1 (List.mem_of_getElem? (i := 226) rfl) rfl
theorem mw_98 : Cond.fieldLink RX2 19 "HiveBylaws$PetitionText" "drone" "[I" ∈ ws0 := ws0_1 (List.mem_of_getElem? (i := 228) rfl) rfl
theorem mw_99 : Cond.fieldLink RX2 22 "HiveBylaws$PetitionText" "number" "[I" ∈ ws0 := ws0_1 (List.mem_of_getElem? (i := 230) rfl) rfl
theorem mw_100 : Cond.fieldLink RX2 25 "HiveBylaws$PetitionText" "doing" "[I" ∈ ws0 := ws0_1 (List.mem_of_getElem? (i := 232) rfl) rfl
theorem mw_101 : Cond.fieldLink RX2 28 "HiveBylaws$PetitionText" "kind" "[I" ∈ ws0 := ws0_1 (List.mem_of_getElem? (i := 234) rfl) rfl
theorem mw_102 : Cond.methodLink RL 12 yX8_init ∈ ws0 := ws0_3 (List.mem_of_getElem? (i := 141) rfl) rfl
theorem mw_103 : Cond.instanceMethod yX8_init ∈ ws0 := ws0_3 (List.mem_of_getElem? (i := 142) rfl) rfl
theorem mw_104 : Cond.code yX8_init cX8_init 2 none ∈ ws0 := ws0_3 (List.mem_of_getElem? (i := 143) rfl) rfl
theorem mw_105 : Cond.methodLink RX8 1 objectInit ∈ ws0 := ws0_3 (List.mem_of_getElem? (i := 144) rfl) rfl
theorem mw_106 : Cond.fieldLink RX8 7 "HiveBylawsModel" "s" "[I" ∈ ws0 := ws0_3 (List.mem_of_getElem? (i := 145) rfl) rfl
theorem mw_107 : Cond.fieldLink RX8 13 "HiveBylawsModel" "text" "[I" ∈ ws0 := ws0_3 (List.mem_of_getElem? (i := 148) rfl) rfl
theorem mw_108 : Cond.fieldLink RX8 16 "HiveBylawsModel" "stopNumber" "I" ∈ ws0 := ws0_3 (List.mem_of_getElem? (i := 150) rfl) rfl
theorem mw_109 : Cond.fieldLink RX8 20 "HiveBylawsModel" "stopError" "I" ∈ ws0 := ws0_3 (List.mem_of_getElem? (i := 151) rfl) rfl
theorem mw_110 : Cond.fieldLink RX8 23 "HiveBylawsModel" "order" "[I" ∈ ws0 := ws0_3 (List.mem_of_getElem? (i := 152) rfl) rfl
theorem mw_111 : Cond.fieldLink RX8 26 "HiveBylawsModel" "reasons" "[I" ∈ ws0 := ws0_3 (List.mem_of_getElem? (i := 153) rfl) rfl
theorem mw_112 : Cond.methodLink RL 13 yX7_come ∈ ws0 := ws0_2 (List.mem_of_getElem? (i := 44) rfl) rfl
theorem mw_113 : Cond.instanceMethod yX7_come ∈ ws0 := ws0_2 (List.mem_of_getElem? (i := 45) rfl) rfl
theorem mw_114 : Cond.selects RX7 yX7_come yX7_come ∈ ws0 := ws0_2 (List.mem_of_getElem? (i := 46) rfl) rfl
theorem mw_115 : Cond.code yX7_come cX7_come 3 (some .int) ∈ ws0 := ws0_2 (List.mem_of_getElem? (i := 47) rfl) rfl
theorem mw_116 : Cond.methodLink RX7 39 yX5_copyFrom ∈ ws0 := ws0_2 (List.mem_of_getElem? (i := 48) rfl) rfl
theorem mw_117 : Cond.instanceMethod yX5_copyFrom ∈ ws0 := ws0_2 (List.mem_of_getElem? (i := 49) rfl) rfl
theorem mw_118 : Cond.selects RX5 yX5_copyFrom yX5_copyFrom ∈ ws0 := ws0_2 (List.mem_of_getElem? (i := 50) rfl) rfl
theorem mw_119 : Cond.code yX5_copyFrom cX5_copyFrom 2 none ∈ ws0 := ws0_2 (List.mem_of_getElem? (i := 51) rfl) rfl
theorem mw_120 : Cond.fieldLink RX5 59 "HiveBylaws$State" "day" "I" ∈ ws0 := ws0_1 (List.mem_of_getElem? (i := 163) rfl) rfl
theorem mw_121 : Cond.fieldLink RX5 63 "HiveBylaws$State" "season" "I" ∈ ws0 := ws0_1 (List.mem_of_getElem? (i := 165) rfl) rfl
theorem mw_122 : Cond.fieldLink RX5 66 "HiveBylaws$State" "daysOfSeason" "I" ∈ ws0 := ws0_1 (List.mem_of_getElem? (i := 167) rfl) rfl
theorem mw_123 : Cond.fieldLink RX5 69 "HiveBylaws$State" "repeals" "I" ∈ ws0 := ws0_1 (List.mem_of_getElem? (i := 169) rfl) rfl
theorem mw_124 : Cond.methodLink RX5 46 yX6_copyFrom ∈ ws0 := ws0_2 (List.mem_of_getElem? (i := 52) rfl) rfl
theorem mw_125 : Cond.instanceMethod yX6_copyFrom ∈ ws0 := ws0_2 (List.mem_of_getElem? (i := 53) rfl) rfl
theorem mw_126 : Cond.selects RX6 yX6_copyFrom yX6_copyFrom ∈ ws0 := ws0_2 (List.mem_of_getElem? (i := 54) rfl) rfl
theorem mw_127 : Cond.code yX6_copyFrom cX6_copyFrom 2 none ∈ ws0 := ws0_2 (List.mem_of_getElem? (i := 55) rfl) rfl
theorem mw_128 : Cond.fieldLink RX6 27 "HiveBylaws$Swarm" "size" "I" ∈ ws0 := ws0_1 (List.mem_of_getElem? (i := 31) rfl) rfl
theorem mw_129 : Cond.methodLink RX6 31 arraycopyName ∈ ws0 := ws0_2 (List.mem_of_getElem? (i := 56) rfl) rfl
theorem mw_130 : Cond.native arraycopyName ∈ ws0 := ws0_2 (List.mem_of_getElem? (i := 58) rfl) rfl
theorem mw_131 : Cond.static arraycopyName ∈ ws0 := ws0_2 (List.mem_of_getElem? (i := 57) rfl) rfl
theorem mw_132 : Cond.initialized "java/lang/System" ∈ ws0 := ws0_1 (List.mem_of_getElem? (i := 10) rfl) rfl
theorem mw_133 : Cond.methodLink RX5 50 yX1_copyFrom ∈ ws0 := ws0_2 (List.mem_of_getElem? (i := 59) rfl) rfl
theorem mw_134 : Cond.instanceMethod yX1_copyFrom ∈ ws0 := ws0_2 (List.mem_of_getElem? (i := 60) rfl) rfl
theorem mw_135 : Cond.selects RX1 yX1_copyFrom yX1_copyFrom ∈ ws0 := ws0_2 (List.mem_of_getElem? (i := 61) rfl) rfl
theorem mw_136 : Cond.code yX1_copyFrom cX1_copyFrom 2 none ∈ ws0 := ws0_2 (List.mem_of_getElem? (i := 62) rfl) rfl
theorem mw_137 : Cond.methodLink RX1 21 arraycopyName ∈ ws0 := ws0_2 (List.mem_of_getElem? (i := 63) rfl) rfl
theorem mw_138 : Cond.methodLink RX5 53 yX3_copyFrom ∈ ws0 := ws0_2 (List.mem_of_getElem? (i := 64) rfl) rfl
theorem mw_139 : Cond.instanceMethod yX3_copyFrom ∈ ws0 := ws0_2 (List.mem_of_getElem? (i := 65) rfl) rfl
theorem mw_140 : Cond.selects RX3 yX3_copyFrom yX3_copyFrom ∈ ws0 := ws0_2 (List.mem_of_getElem? (i := 66) rfl) rfl
theorem mw_141 : Cond.code yX3_copyFrom cX3_copyFrom 2 none ∈ ws0 := ws0_2 (List.mem_of_getElem? (i := 67) rfl) rfl
theorem mw_142 : Cond.fieldLink RX3 30 "HiveBylaws$Petitions" "size" "I" ∈ ws0 := ws0_1 (List.mem_of_getElem? (i := 91) rfl) rfl
theorem mw_143 : Cond.methodLink RX3 34 arraycopyName ∈ ws0 := ws0_2 (List.mem_of_getElem? (i := 68) rfl) rfl
theorem mw_144 : Cond.methodLink RX5 56 yX4_copyFrom ∈ ws0 := ws0_2 (List.mem_of_getElem? (i := 69) rfl) rfl
theorem mw_145 : Cond.instanceMethod yX4_copyFrom ∈ ws0 := ws0_2 (List.mem_of_getElem? (i := 70) rfl) rfl
theorem mw_146 : Cond.selects RX4 yX4_copyFrom yX4_copyFrom ∈ ws0 := ws0_2 (List.mem_of_getElem? (i := 71) rfl) rfl
theorem mw_147 : Cond.code yX4_copyFrom cX4_copyFrom 2 none ∈ ws0 := ws0_2 (List.mem_of_getElem? (i := 72) rfl) rfl
theorem mw_148 : Cond.fieldLink RX4 24 "HiveBylaws$Refusals" "size" "I" ∈ ws0 := ws0_1 (List.mem_of_getElem? (i := 137) rfl) rfl
theorem mw_149 : Cond.methodLink RX4 28 arraycopyName ∈ ws0 := ws0_2 (List.mem_of_getElem? (i := 73) rfl) rfl
theorem mw_150 : Cond.methodLink RX7 43 yX5_addDrone ∈ ws0 := ws0_2 (List.mem_of_getElem? (i := 74) rfl) rfl
theorem mw_151 : Cond.instanceMethod yX5_addDrone ∈ ws0 := ws0_2 (List.mem_of_getElem? (i := 75) rfl) rfl
theorem mw_152 : Cond.selects RX5 yX5_addDrone yX5_addDrone ∈ ws0 := ws0_2 (List.mem_of_getElem? (i := 76) rfl) rfl
theorem mw_153 : Cond.code yX5_addDrone cX5_addDrone 3 (some .int) ∈ ws0 := ws0_2 (List.mem_of_getElem? (i := 77) rfl) rfl
theorem mw_154 : Cond.fieldLink RX5 76 "HiveBylaws$Swarm" "size" "I" ∈ ws0 := ws0_1 (List.mem_of_getElem? (i := 32) rfl) rfl
theorem mw_155 : Cond.static yX7_isComb ∈ ws0 := ws0_2 (List.mem_of_getElem? (i := 79) rfl) rfl
theorem mw_156 : Cond.code yX7_isComb cX7_isComb 1 (some .boolean) ∈ ws0 := ws0_2 (List.mem_of_getElem? (i := 80) rfl) rfl
theorem mw_157 : Cond.methodLink RX5 79 yX6_add ∈ ws0 := ws0_2 (List.mem_of_getElem? (i := 81) rfl) rfl
theorem mw_158 : Cond.instanceMethod yX6_add ∈ ws0 := ws0_2 (List.mem_of_getElem? (i := 82) rfl) rfl
theorem mw_159 : Cond.selects RX6 yX6_add yX6_add ∈ ws0 := ws0_2 (List.mem_of_getElem? (i := 83) rfl) rfl
theorem mw_160 : Cond.code yX6_add cX6_add 3 (some .int) ∈ ws0 := ws0_2 (List.mem_of_getElem? (i := 84) rfl) rfl
theorem mw_161 : Cond.methodLink RX7 47 yX7_recorded ∈ ws0 := ws0_2 (List.mem_of_getElem? (i := 85) rfl) rfl
theorem mw_162 : Cond.instanceMethod yX7_recorded ∈ ws0 := ws0_2 (List.mem_of_getElem? (i := 87) rfl) rfl
theorem mw_163 : Cond.selects RX7 yX7_recorded yX7_recorded ∈ ws0 := ws0_p (n := 9) (ws0_q1 (List.mem_of_getElem? (i := 0) rfl))
theorem mw_164 : Cond.code yX7_recorded cX7_recorded 2 (some .int) ∈ ws0 := ws0_2 (List.mem_of_getElem? (i := 88) rfl) rfl
theorem mw_165 : Cond.methodLink RX7 250 yX0_remember ∈ ws0 := ws0_2 (List.mem_of_getElem? (i := 89) rfl) rfl
theorem mw_166 : Cond.instanceMethod yX0_remember ∈ ws0 := ws0_2 (List.mem_of_getElem? (i := 90) rfl) rfl
theorem mw_167 : Cond.selects RX0 yX0_remember yX0_remember ∈ ws0 := ws0_2 (List.mem_of_getElem? (i := 91) rfl) rfl
theorem mw_168 : Cond.code yX0_remember cX0_remember 2 none ∈ ws0 := ws0_2 (List.mem_of_getElem? (i := 92) rfl) rfl
theorem mw_169 : Cond.fieldLink RX0 18 "HiveBylaws$History" "size" "I" ∈ ws0 := ws0_1 (List.mem_of_getElem? (i := 205) rfl) rfl
theorem mw_170 : Cond.fieldLink RX0 22 "HiveBylaws$History" "first" "I" ∈ ws0 := ws0_1 (List.mem_of_getElem? (i := 204) rfl) rfl
theorem mw_171 : Cond.methodLink RX0 25 yX5_copyFrom ∈ ws0 := ws0_2 (List.mem_of_getElem? (i := 93) rfl) rfl
theorem mw_172 : Cond.methodLink RL 17 yX8_come ∈ ws0 := ws0_3 (List.mem_of_getElem? (i := 191) rfl) rfl
theorem mw_173 : Cond.instanceMethod yX8_come ∈ ws0 := ws0_3 (List.mem_of_getElem? (i := 192) rfl) rfl
theorem mw_174 : Cond.selects RX8 yX8_come yX8_come ∈ ws0 := ws0_3 (List.mem_of_getElem? (i := 193) rfl) rfl
theorem mw_175 : Cond.code yX8_come cX8_come 3 (some .int) ∈ ws0 := ws0_3 (List.mem_of_getElem? (i := 194) rfl) rfl
theorem mw_176 : Cond.methodLink RX8 32 yX8_copies ∈ ws0 := ws0_3 (List.mem_of_getElem? (i := 195) rfl) rfl
theorem mw_177 : Cond.instanceMethod yX8_copies ∈ ws0 := ws0_3 (List.mem_of_getElem? (i := 197) rfl) rfl
theorem mw_178 : Cond.selects RX8 yX8_copies yX8_copies ∈ ws0 := ws0_p (n := 15) (ws0_q1 (List.mem_of_getElem? (i := 12) rfl))
theorem mw_179 : Cond.code yX8_copies cX8_copies 4 none ∈ ws0 := ws0_3 (List.mem_of_getElem? (i := 198) rfl) rfl
theorem mw_180 : Cond.methodLink RX8 100 yX8_comes ∈ ws0 := ws0_3 (List.mem_of_getElem? (i := 199) rfl) rfl
theorem mw_181 : Cond.instanceMethod yX8_comes ∈ ws0 := ws0_3 (List.mem_of_getElem? (i := 201) rfl) rfl
theorem mw_182 : Cond.selects RX8 yX8_comes yX8_comes ∈ ws0 := ws0_p (n := 15) (ws0_q1 (List.mem_of_getElem? (i := 13) rfl))
theorem mw_183 : Cond.code yX8_comes cX8_comes 5 (some .int) ∈ ws0 := ws0_3 (List.mem_of_getElem? (i := 202) rfl) rfl
theorem mw_184 : Cond.methodLink RX8 80 yX8_isComb ∈ ws0 := ws0_3 (List.mem_of_getElem? (i := 203) rfl) rfl
theorem mw_185 : Cond.static yX8_isComb ∈ ws0 := ws0_3 (List.mem_of_getElem? (i := 204) rfl) rfl
theorem mw_186 : Cond.code yX8_isComb cX8_isComb 1 (some .boolean) ∈ ws0 := ws0_3 (List.mem_of_getElem? (i := 205) rfl) rfl
theorem mw_187 : Cond.methodLink RX8 76 yX8_in ∈ ws0 := ws0_3 (List.mem_of_getElem? (i := 206) rfl) rfl
theorem mw_188 : Cond.static yX8_in ∈ ws0 := ws0_3 (List.mem_of_getElem? (i := 207) rfl) rfl
theorem mw_189 : Cond.code yX8_in cX8_in 3 (some .boolean) ∈ ws0 := ws0_3 (List.mem_of_getElem? (i := 208) rfl) rfl
theorem mw_190 : Cond.methodLink RX8 40 yX8_droneAt ∈ ws0 := ws0_3 (List.mem_of_getElem? (i := 209) rfl) rfl
theorem mw_191 : Cond.static yX8_droneAt ∈ ws0 := ws0_3 (List.mem_of_getElem? (i := 210) rfl) rfl
theorem mw_192 : Cond.code yX8_droneAt cX8_droneAt 2 (some .int) ∈ ws0 := ws0_3 (List.mem_of_getElem? (i := 211) rfl) rfl
theorem mw_193 : Cond.methodLink RX8 103 yX8_done ∈ ws0 := ws0_3 (List.mem_of_getElem? (i := 212) rfl) rfl
theorem mw_194 : Cond.instanceMethod yX8_done ∈ ws0 := ws0_3 (List.mem_of_getElem? (i := 214) rfl) rfl
theorem mw_195 : Cond.selects RX8 yX8_done yX8_done ∈ ws0 := ws0_p (n := 15) (ws0_q1 (List.mem_of_getElem? (i := 14) rfl))
theorem mw_196 : Cond.code yX8_done cX8_done 2 (some .int) ∈ ws0 := ws0_3 (List.mem_of_getElem? (i := 215) rfl) rfl
theorem mw_197 : Cond.methodLink RX8 97 yX8_records ∈ ws0 := ws0_3 (List.mem_of_getElem? (i := 216) rfl) rfl
theorem mw_198 : Cond.instanceMethod yX8_records ∈ ws0 := ws0_3 (List.mem_of_getElem? (i := 218) rfl) rfl
theorem mw_199 : Cond.selects RX8 yX8_records yX8_records ∈ ws0 := ws0_p (n := 15) (ws0_q1 (List.mem_of_getElem? (i := 15) rfl))
theorem mw_200 : Cond.code yX8_records cX8_records 3 none ∈ ws0 := ws0_3 (List.mem_of_getElem? (i := 219) rfl) rfl
theorem mw_201 : Cond.fieldLink RX8 29 "HiveBylawsModel" "states" "I" ∈ ws0 := ws0_3 (List.mem_of_getElem? (i := 146) rfl) rfl
theorem mw_202 : Cond.methodLink RL 18 yX7_move ∈ ws0 := ws0_2 (List.mem_of_getElem? (i := 94) rfl) rfl
theorem mw_203 : Cond.instanceMethod yX7_move ∈ ws0 := ws0_2 (List.mem_of_getElem? (i := 95) rfl) rfl
theorem mw_204 : Cond.selects RX7 yX7_move yX7_move ∈ ws0 := ws0_2 (List.mem_of_getElem? (i := 96) rfl) rfl
theorem mw_205 : Cond.code yX7_move cX7_move 3 (some .int) ∈ ws0 := ws0_2 (List.mem_of_getElem? (i := 97) rfl) rfl
theorem mw_206 : Cond.methodLink RX7 51 yX5_moveDrone ∈ ws0 := ws0_2 (List.mem_of_getElem? (i := 98) rfl) rfl
theorem mw_207 : Cond.instanceMethod yX5_moveDrone ∈ ws0 := ws0_2 (List.mem_of_getElem? (i := 99) rfl) rfl
theorem mw_208 : Cond.selects RX5 yX5_moveDrone yX5_moveDrone ∈ ws0 := ws0_2 (List.mem_of_getElem? (i := 100) rfl) rfl
theorem mw_209 : Cond.code yX5_moveDrone cX5_moveDrone 4 (some .int) ∈ ws0 := ws0_2 (List.mem_of_getElem? (i := 101) rfl) rfl
theorem mw_210 : Cond.fieldLink RX5 86 "HiveBylaws$Swarm" "comb" "[I" ∈ ws0 := ws0_1 (List.mem_of_getElem? (i := 35) rfl) rfl
theorem mw_211 : Cond.methodLink RX5 83 yX6_knows ∈ ws0 := ws0_2 (List.mem_of_getElem? (i := 102) rfl) rfl
theorem mw_212 : Cond.instanceMethod yX6_knows ∈ ws0 := ws0_2 (List.mem_of_getElem? (i := 103) rfl) rfl
theorem mw_213 : Cond.selects RX6 yX6_knows yX6_knows ∈ ws0 := ws0_2 (List.mem_of_getElem? (i := 104) rfl) rfl
theorem mw_214 : Cond.code yX6_knows cX6_knows 2 (some .boolean) ∈ ws0 := ws0_2 (List.mem_of_getElem? (i := 105) rfl) rfl
theorem mw_215 : Cond.methodLink RL 21 yX8_move ∈ ws0 := ws0_3 (List.mem_of_getElem? (i := 220) rfl) rfl
theorem mw_216 : Cond.instanceMethod yX8_move ∈ ws0 := ws0_3 (List.mem_of_getElem? (i := 221) rfl) rfl
theorem mw_217 : Cond.selects RX8 yX8_move yX8_move ∈ ws0 := ws0_3 (List.mem_of_getElem? (i := 222) rfl) rfl
theorem mw_218 : Cond.code yX8_move cX8_move 3 (some .int) ∈ ws0 := ws0_3 (List.mem_of_getElem? (i := 223) rfl) rfl
theorem mw_219 : Cond.methodLink RX8 106 yX8_moves ∈ ws0 := ws0_3 (List.mem_of_getElem? (i := 224) rfl) rfl
theorem mw_220 : Cond.instanceMethod yX8_moves ∈ ws0 := ws0_3 (List.mem_of_getElem? (i := 226) rfl) rfl
theorem mw_221 : Cond.selects RX8 yX8_moves yX8_moves ∈ ws0 := ws0_p (n := 15) (ws0_q2 (List.mem_of_getElem? (i := 0) rfl))
theorem mw_222 : Cond.code yX8_moves cX8_moves 4 (some .int) ∈ ws0 := ws0_3 (List.mem_of_getElem? (i := 227) rfl) rfl
theorem mw_223 : Cond.methodLink RX8 84 yX8_isDrone ∈ ws0 := ws0_3 (List.mem_of_getElem? (i := 228) rfl) rfl
theorem mw_224 : Cond.instanceMethod yX8_isDrone ∈ ws0 := ws0_3 (List.mem_of_getElem? (i := 230) rfl) rfl
theorem mw_225 : Cond.selects RX8 yX8_isDrone yX8_isDrone ∈ ws0 := ws0_p (n := 15) (ws0_q2 (List.mem_of_getElem? (i := 1) rfl))
theorem mw_226 : Cond.code yX8_isDrone cX8_isDrone 2 (some .boolean) ∈ ws0 := ws0_3 (List.mem_of_getElem? (i := 231) rfl) rfl
theorem mw_227 : Cond.methodLink RL 22 yX7_petition ∈ ws0 := ws0_2 (List.mem_of_getElem? (i := 106) rfl) rfl
theorem mw_228 : Cond.instanceMethod yX7_petition ∈ ws0 := ws0_2 (List.mem_of_getElem? (i := 107) rfl) rfl
theorem mw_229 : Cond.selects RX7 yX7_petition yX7_petition ∈ ws0 := ws0_2 (List.mem_of_getElem? (i := 108) rfl) rfl
theorem mw_230 : Cond.code yX7_petition cX7_petition 5 (some .int) ∈ ws0 := ws0_2 (List.mem_of_getElem? (i := 109) rfl) rfl
theorem mw_231 : Cond.methodLink RX7 54 yX5_addPetition ∈ ws0 := ws0_2 (List.mem_of_getElem? (i := 110) rfl) rfl
theorem mw_232 : Cond.instanceMethod yX5_addPetition ∈ ws0 := ws0_2 (List.mem_of_getElem? (i := 111) rfl) rfl
theorem mw_233 : Cond.selects RX5 yX5_addPetition yX5_addPetition ∈ ws0 := ws0_2 (List.mem_of_getElem? (i := 112) rfl) rfl
theorem mw_234 : Cond.code yX5_addPetition cX5_addPetition 6 (some .int) ∈ ws0 := ws0_2 (List.mem_of_getElem? (i := 113) rfl) rfl
theorem mw_235 : Cond.fieldLink RX5 99 "HiveBylaws$Petitions" "size" "I" ∈ ws0 := ws0_1 (List.mem_of_getElem? (i := 92) rfl) rfl
theorem mw_236 : Cond.fieldLink RX5 100 "HiveBylaws$Swarm" "made" "[I" ∈ ws0 := ws0_1 (List.mem_of_getElem? (i := 41) rfl) rfl
theorem mw_237 : Cond.fieldLink RX5 103 "HiveBylaws$Swarm" "weight" "[I" ∈ ws0 := ws0_1 (List.mem_of_getElem? (i := 38) rfl) rfl
theorem mw_238 : Cond.static yX7_isPlace ∈ ws0 := ws0_2 (List.mem_of_getElem? (i := 115) rfl) rfl
theorem mw_239 : Cond.code yX7_isPlace cX7_isPlace 1 (some .boolean) ∈ ws0 := ws0_2 (List.mem_of_getElem? (i := 116) rfl) rfl
theorem mw_240 : Cond.static yX7_isDoing ∈ ws0 := ws0_2 (List.mem_of_getElem? (i := 118) rfl) rfl
theorem mw_241 : Cond.code yX7_isDoing cX7_isDoing 1 (some .boolean) ∈ ws0 := ws0_2 (List.mem_of_getElem? (i := 119) rfl) rfl
theorem mw_242 : Cond.methodLink RX5 95 yX3_madeBy ∈ ws0 := ws0_2 (List.mem_of_getElem? (i := 120) rfl) rfl
theorem mw_243 : Cond.instanceMethod yX3_madeBy ∈ ws0 := ws0_2 (List.mem_of_getElem? (i := 121) rfl) rfl
theorem mw_244 : Cond.selects RX3 yX3_madeBy yX3_madeBy ∈ ws0 := ws0_2 (List.mem_of_getElem? (i := 122) rfl) rfl
theorem mw_245 : Cond.code yX3_madeBy cX3_madeBy 3 (some .int) ∈ ws0 := ws0_2 (List.mem_of_getElem? (i := 123) rfl) rfl
theorem mw_246 : Cond.methodLink RX5 106 yX3_add ∈ ws0 := ws0_2 (List.mem_of_getElem? (i := 124) rfl) rfl
theorem mw_247 : Cond.instanceMethod yX3_add ∈ ws0 := ws0_2 (List.mem_of_getElem? (i := 125) rfl) rfl
theorem mw_248 : Cond.selects RX3 yX3_add yX3_add ∈ ws0 := ws0_2 (List.mem_of_getElem? (i := 126) rfl) rfl
theorem mw_249 : Cond.code yX3_add cX3_add 6 (some .int) ∈ ws0 := ws0_2 (List.mem_of_getElem? (i := 127) rfl) rfl
theorem mw_250 : Cond.methodLink RL 26 yX8_petition ∈ ws0 := ws0_3 (List.mem_of_getElem? (i := 232) rfl) rfl
theorem mw_251 : Cond.instanceMethod yX8_petition ∈ ws0 := ws0_3 (List.mem_of_getElem? (i := 233) rfl) rfl
theorem mw_252 : Cond.selects RX8 yX8_petition yX8_petition ∈ ws0 := ws0_3 (List.mem_of_getElem? (i := 234) rfl) rfl
theorem mw_253 : Cond.code yX8_petition cX8_petition 5 (some .int) ∈ ws0 := ws0_3 (List.mem_of_getElem? (i := 235) rfl) rfl
theorem mw_254 : Cond.methodLink RX8 109 yX8_petitions ∈ ws0 := ws0_3 (List.mem_of_getElem? (i := 236) rfl) rfl
theorem mw_255 : Cond.instanceMethod yX8_petitions ∈ ws0 := ws0_3 (List.mem_of_getElem? (i := 238) rfl) rfl
theorem mw_256 : Cond.selects RX8 yX8_petitions yX8_petitions ∈ ws0 := ws0_p (n := 15) (ws0_q2 (List.mem_of_getElem? (i := 2) rfl))
theorem mw_257 : Cond.code yX8_petitions cX8_petitions 7 (some .int) ∈ ws0 := ws0_3 (List.mem_of_getElem? (i := 239) rfl) rfl
theorem mw_258 : Cond.methodLink RX8 87 yX8_isDoing ∈ ws0 := ws0_4 (List.mem_of_getElem? (i := 0) rfl) rfl
theorem mw_259 : Cond.static yX8_isDoing ∈ ws0 := ws0_4 (List.mem_of_getElem? (i := 1) rfl) rfl
theorem mw_260 : Cond.code yX8_isDoing cX8_isDoing 1 (some .boolean) ∈ ws0 := ws0_4 (List.mem_of_getElem? (i := 2) rfl) rfl
theorem mw_261 : Cond.methodLink RX8 36 yX8_petitionAt ∈ ws0 := ws0_4 (List.mem_of_getElem? (i := 3) rfl) rfl
theorem mw_262 : Cond.static yX8_petitionAt ∈ ws0 := ws0_4 (List.mem_of_getElem? (i := 4) rfl) rfl
theorem mw_263 : Cond.code yX8_petitionAt cX8_petitionAt 2 (some .int) ∈ ws0 := ws0_4 (List.mem_of_getElem? (i := 5) rfl) rfl
theorem mw_264 : Cond.methodLink RL 27 yX7_second ∈ ws0 := ws0_2 (List.mem_of_getElem? (i := 128) rfl) rfl
theorem mw_265 : Cond.instanceMethod yX7_second ∈ ws0 := ws0_2 (List.mem_of_getElem? (i := 129) rfl) rfl
theorem mw_266 : Cond.selects RX7 yX7_second yX7_second ∈ ws0 := ws0_2 (List.mem_of_getElem? (i := 130) rfl) rfl
theorem mw_267 : Cond.code yX7_second cX7_second 3 (some .int) ∈ ws0 := ws0_2 (List.mem_of_getElem? (i := 131) rfl) rfl
theorem mw_268 : Cond.methodLink RX7 58 yX5_addSeconder ∈ ws0 := ws0_2 (List.mem_of_getElem? (i := 132) rfl) rfl
theorem mw_269 : Cond.instanceMethod yX5_addSeconder ∈ ws0 := ws0_2 (List.mem_of_getElem? (i := 133) rfl) rfl
theorem mw_270 : Cond.selects RX5 yX5_addSeconder yX5_addSeconder ∈ ws0 := ws0_2 (List.mem_of_getElem? (i := 134) rfl) rfl
theorem mw_271 : Cond.code yX5_addSeconder cX5_addSeconder 4 (some .int) ∈ ws0 := ws0_2 (List.mem_of_getElem? (i := 135) rfl) rfl
theorem mw_272 : Cond.fieldLink RX5 112 "HiveBylaws$Petitions" "drone" "[I" ∈ ws0 := ws0_1 (List.mem_of_getElem? (i := 95) rfl) rfl
theorem mw_273 : Cond.fieldLink RX5 115 "HiveBylaws$Petitions" "seconders" "[I" ∈ ws0 := ws0_1 (List.mem_of_getElem? (i := 114) rfl) rfl
theorem mw_274 : Cond.fieldLink RX5 118 "HiveBylaws$Petitions" "support" "[I" ∈ ws0 := ws0_1 (List.mem_of_getElem? (i := 111) rfl) rfl
theorem mw_275 : Cond.methodLink RX5 109 yX3_has ∈ ws0 := ws0_2 (List.mem_of_getElem? (i := 136) rfl) rfl
theorem mw_276 : Cond.instanceMethod yX3_has ∈ ws0 := ws0_2 (List.mem_of_getElem? (i := 137) rfl) rfl
theorem mw_277 : Cond.selects RX3 yX3_has yX3_has ∈ ws0 := ws0_2 (List.mem_of_getElem? (i := 138) rfl) rfl
theorem mw_278 : Cond.code yX3_has cX3_has 2 (some .boolean) ∈ ws0 := ws0_2 (List.mem_of_getElem? (i := 139) rfl) rfl
theorem mw_279 : Cond.methodLink RL 30 yX8_second ∈ ws0 := ws0_4 (List.mem_of_getElem? (i := 6) rfl) rfl
theorem mw_280 : Cond.instanceMethod yX8_second ∈ ws0 := ws0_4 (List.mem_of_getElem? (i := 7) rfl) rfl
theorem mw_281 : Cond.selects RX8 yX8_second yX8_second ∈ ws0 := ws0_4 (List.mem_of_getElem? (i := 8) rfl) rfl
theorem mw_282 : Cond.code yX8_second cX8_second 3 (some .int) ∈ ws0 := ws0_4 (List.mem_of_getElem? (i := 9) rfl) rfl
theorem mw_283 : Cond.methodLink RX8 112 yX8_seconds ∈ ws0 := ws0_4 (List.mem_of_getElem? (i := 10) rfl) rfl
theorem mw_284 : Cond.instanceMethod yX8_seconds ∈ ws0 := ws0_4 (List.mem_of_getElem? (i := 12) rfl) rfl
theorem mw_285 : Cond.selects RX8 yX8_seconds yX8_seconds ∈ ws0 := ws0_p (n := 15) (ws0_q2 (List.mem_of_getElem? (i := 3) rfl))
theorem mw_286 : Cond.code yX8_seconds cX8_seconds 4 (some .int) ∈ ws0 := ws0_4 (List.mem_of_getElem? (i := 13) rfl) rfl
theorem mw_287 : Cond.methodLink RX8 90 yX8_isPetition ∈ ws0 := ws0_4 (List.mem_of_getElem? (i := 14) rfl) rfl
theorem mw_288 : Cond.instanceMethod yX8_isPetition ∈ ws0 := ws0_4 (List.mem_of_getElem? (i := 16) rfl) rfl
theorem mw_289 : Cond.selects RX8 yX8_isPetition yX8_isPetition ∈ ws0 := ws0_p (n := 15) (ws0_q2 (List.mem_of_getElem? (i := 4) rfl))
theorem mw_290 : Cond.code yX8_isPetition cX8_isPetition 2 (some .boolean) ∈ ws0 := ws0_4 (List.mem_of_getElem? (i := 17) rfl) rfl
theorem mw_291 : Cond.methodLink RX8 58 yX8_support ∈ ws0 := ws0_4 (List.mem_of_getElem? (i := 18) rfl) rfl
theorem mw_292 : Cond.instanceMethod yX8_support ∈ ws0 := ws0_4 (List.mem_of_getElem? (i := 20) rfl) rfl
theorem mw_293 : Cond.selects RX8 yX8_support yX8_support ∈ ws0 := ws0_p (n := 15) (ws0_q2 (List.mem_of_getElem? (i := 5) rfl))
theorem mw_294 : Cond.code yX8_support cX8_support 6 (some .int) ∈ ws0 := ws0_4 (List.mem_of_getElem? (i := 21) rfl) rfl
theorem mw_295 : Cond.methodLink RL 31 yX7_pass ∈ ws0 := ws0_2 (List.mem_of_getElem? (i := 140) rfl) rfl
theorem mw_296 : Cond.instanceMethod yX7_pass ∈ ws0 := ws0_2 (List.mem_of_getElem? (i := 141) rfl) rfl
theorem mw_297 : Cond.selects RX7 yX7_pass yX7_pass ∈ ws0 := ws0_2 (List.mem_of_getElem? (i := 142) rfl) rfl
theorem mw_298 : Cond.code yX7_pass cX7_pass 2 (some .int) ∈ ws0 := ws0_2 (List.mem_of_getElem? (i := 143) rfl) rfl
theorem mw_299 : Cond.methodLink RX7 61 yX5_endDays ∈ ws0 := ws0_2 (List.mem_of_getElem? (i := 144) rfl) rfl
theorem mw_300 : Cond.instanceMethod yX5_endDays ∈ ws0 := ws0_2 (List.mem_of_getElem? (i := 145) rfl) rfl
theorem mw_301 : Cond.selects RX5 yX5_endDays yX5_endDays ∈ ws0 := ws0_2 (List.mem_of_getElem? (i := 146) rfl) rfl
theorem mw_302 : Cond.code yX5_endDays cX5_endDays 4 (some .int) ∈ ws0 := ws0_2 (List.mem_of_getElem? (i := 147) rfl) rfl
theorem mw_303 : Cond.constant RX5 121 (99999) ∈ ws0 := ws0_2 (List.mem_of_getElem? (i := 148) rfl) rfl
theorem mw_304 : Cond.methodLink RX5 122 yX5_endSeason ∈ ws0 := ws0_2 (List.mem_of_getElem? (i := 149) rfl) rfl
theorem mw_305 : Cond.instanceMethod yX5_endSeason ∈ ws0 := ws0_2 (List.mem_of_getElem? (i := 151) rfl) rfl
theorem mw_306 : Cond.selects RX5 yX5_endSeason yX5_endSeason ∈ ws0 := ws0_p (n := 10) (ws0_q1 (List.mem_of_getElem? (i := 1) rfl))
theorem mw_307 : Cond.code yX5_endSeason cX5_endSeason 4 (some .int) ∈ ws0 := ws0_2 (List.mem_of_getElem? (i := 152) rfl) rfl
theorem mw_308 : Cond.fieldLink RX5 129 "HiveBylaws$Refusals" "size" "I" ∈ ws0 := ws0_1 (List.mem_of_getElem? (i := 138) rfl) rfl
theorem mw_309 : Cond.fieldLink RX5 130 "HiveBylaws$Swarm" "passed" "[I" ∈ ws0 := ws0_1 (List.mem_of_getElem? (i := 44) rfl) rfl
theorem mw_310 : Cond.fieldLink RX5 133 "HiveBylaws$Swarm" "refused" "[I" ∈ ws0 := ws0_1 (List.mem_of_getElem? (i := 47) rfl) rfl
theorem mw_311 : Cond.methodLink RX5 126 yX5_hearPetitions ∈ ws0 := ws0_2 (List.mem_of_getElem? (i := 153) rfl) rfl
theorem mw_312 : Cond.instanceMethod yX5_hearPetitions ∈ ws0 := ws0_2 (List.mem_of_getElem? (i := 154) rfl) rfl
theorem mw_313 : Cond.selects RX5 yX5_hearPetitions yX5_hearPetitions ∈ ws0 := ws0_2 (List.mem_of_getElem? (i := 155) rfl) rfl
theorem mw_314 : Cond.code yX5_hearPetitions cX5_hearPetitions 5 (some .int) ∈ ws0 := ws0_2 (List.mem_of_getElem? (i := 156) rfl) rfl
theorem mw_315 : Cond.methodLink RX5 139 yX3_atRank ∈ ws0 := ws0_2 (List.mem_of_getElem? (i := 157) rfl) rfl
theorem mw_316 : Cond.instanceMethod yX3_atRank ∈ ws0 := ws0_2 (List.mem_of_getElem? (i := 158) rfl) rfl
theorem mw_317 : Cond.selects RX3 yX3_atRank yX3_atRank ∈ ws0 := ws0_2 (List.mem_of_getElem? (i := 159) rfl) rfl
theorem mw_318 : Cond.code yX3_atRank cX3_atRank 3 (some .int) ∈ ws0 := ws0_2 (List.mem_of_getElem? (i := 160) rfl) rfl
theorem mw_319 : Cond.methodLink RX3 40 yX3_rankOf ∈ ws0 := ws0_2 (List.mem_of_getElem? (i := 161) rfl) rfl
theorem mw_320 : Cond.instanceMethod yX3_rankOf ∈ ws0 := ws0_2 (List.mem_of_getElem? (i := 163) rfl) rfl
theorem mw_321 : Cond.selects RX3 yX3_rankOf yX3_rankOf ∈ ws0 := ws0_p (n := 7) (ws0_q1 (List.mem_of_getElem? (i := 2) rfl))
theorem mw_322 : Cond.code yX3_rankOf cX3_rankOf 6 (some .int) ∈ ws0 := ws0_2 (List.mem_of_getElem? (i := 164) rfl) rfl
theorem mw_323 : Cond.methodLink RX5 142 yX5_reasonToRefuse ∈ ws0 := ws0_2 (List.mem_of_getElem? (i := 165) rfl) rfl
theorem mw_324 : Cond.instanceMethod yX5_reasonToRefuse ∈ ws0 := ws0_2 (List.mem_of_getElem? (i := 166) rfl) rfl
theorem mw_325 : Cond.selects RX5 yX5_reasonToRefuse yX5_reasonToRefuse ∈ ws0 := ws0_2 (List.mem_of_getElem? (i := 167) rfl) rfl
theorem mw_326 : Cond.code yX5_reasonToRefuse cX5_reasonToRefuse 8 (some .int) ∈ ws0 := ws0_2 (List.mem_of_getElem? (i := 168) rfl) rfl
theorem mw_327 : Cond.fieldLink RX5 149 "HiveBylaws$Petitions" "place" "[I" ∈ ws0 := ws0_1 (List.mem_of_getElem? (i := 99) rfl) rfl
theorem mw_328 : Cond.fieldLink RX5 152 "HiveBylaws$Petitions" "doing" "[I" ∈ ws0 := ws0_1 (List.mem_of_getElem? (i := 103) rfl) rfl
theorem mw_329 : Cond.fieldLink RX5 155 "HiveBylaws$Petitions" "kind" "[I" ∈ ws0 := ws0_1 (List.mem_of_getElem? (i := 107) rfl) rfl
theorem mw_330 : Cond.methodLink RX5 158 yX4_greatestSupport ∈ ws0 := ws0_2 (List.mem_of_getElem? (i := 169) rfl) rfl
theorem mw_331 : Cond.instanceMethod yX4_greatestSupport ∈ ws0 := ws0_2 (List.mem_of_getElem? (i := 170) rfl) rfl
theorem mw_332 : Cond.selects RX4 yX4_greatestSupport yX4_greatestSupport ∈ ws0 := ws0_2 (List.mem_of_getElem? (i := 171) rfl) rfl
theorem mw_333 : Cond.code yX4_greatestSupport cX4_greatestSupport 7 (some .int) ∈ ws0 := ws0_2 (List.mem_of_getElem? (i := 172) rfl) rfl
theorem mw_334 : Cond.methodLink RX5 162 yX1_strengthOf ∈ ws0 := ws0_2 (List.mem_of_getElem? (i := 173) rfl) rfl
theorem mw_335 : Cond.instanceMethod yX1_strengthOf ∈ ws0 := ws0_2 (List.mem_of_getElem? (i := 174) rfl) rfl
theorem mw_336 : Cond.selects RX1 yX1_strengthOf yX1_strengthOf ∈ ws0 := ws0_2 (List.mem_of_getElem? (i := 175) rfl) rfl
theorem mw_337 : Cond.code yX1_strengthOf cX1_strengthOf 3 (some .int) ∈ ws0 := ws0_2 (List.mem_of_getElem? (i := 176) rfl) rfl
theorem mw_338 : Cond.methodLink RX5 165 yX6_weightAt ∈ ws0 := ws0_2 (List.mem_of_getElem? (i := 177) rfl) rfl
theorem mw_339 : Cond.instanceMethod yX6_weightAt ∈ ws0 := ws0_2 (List.mem_of_getElem? (i := 178) rfl) rfl
theorem mw_340 : Cond.selects RX6 yX6_weightAt yX6_weightAt ∈ ws0 := ws0_2 (List.mem_of_getElem? (i := 179) rfl) rfl
theorem mw_341 : Cond.code yX6_weightAt cX6_weightAt 4 (some .int) ∈ ws0 := ws0_2 (List.mem_of_getElem? (i := 180) rfl) rfl
theorem mw_342 : Cond.methodLink RX5 168 yX1_stanceOf ∈ ws0 := ws0_2 (List.mem_of_getElem? (i := 181) rfl) rfl
theorem mw_343 : Cond.instanceMethod yX1_stanceOf ∈ ws0 := ws0_2 (List.mem_of_getElem? (i := 182) rfl) rfl
theorem mw_344 : Cond.selects RX1 yX1_stanceOf yX1_stanceOf ∈ ws0 := ws0_2 (List.mem_of_getElem? (i := 183) rfl) rfl
theorem mw_345 : Cond.code yX1_stanceOf cX1_stanceOf 3 (some .int) ∈ ws0 := ws0_2 (List.mem_of_getElem? (i := 184) rfl) rfl
theorem mw_346 : Cond.methodLink RX5 145 yX5_grant ∈ ws0 := ws0_2 (List.mem_of_getElem? (i := 185) rfl) rfl
theorem mw_347 : Cond.instanceMethod yX5_grant ∈ ws0 := ws0_2 (List.mem_of_getElem? (i := 187) rfl) rfl
theorem mw_348 : Cond.selects RX5 yX5_grant yX5_grant ∈ ws0 := ws0_p (n := 10) (ws0_q1 (List.mem_of_getElem? (i := 3) rfl))
theorem mw_349 : Cond.code yX5_grant cX5_grant 3 none ∈ ws0 := ws0_2 (List.mem_of_getElem? (i := 188) rfl) rfl
theorem mw_350 : Cond.fieldLink RX5 171 "HiveBylaws$Laws" "strength" "[I" ∈ ws0 := ws0_1 (List.mem_of_getElem? (i := 73) rfl) rfl
theorem mw_351 : Cond.fieldLink RX5 174 "HiveBylaws$Laws" "stance" "[I" ∈ ws0 := ws0_1 (List.mem_of_getElem? (i := 70) rfl) rfl
theorem mw_352 : Cond.fieldLink RX5 177 "HiveBylaws$Laws" "season" "[I" ∈ ws0 := ws0_1 (List.mem_of_getElem? (i := 76) rfl) rfl
theorem mw_353 : Cond.methodLink RX5 136 yX4_add ∈ ws0 := ws0_2 (List.mem_of_getElem? (i := 189) rfl) rfl
theorem mw_354 : Cond.instanceMethod yX4_add ∈ ws0 := ws0_2 (List.mem_of_getElem? (i := 190) rfl) rfl
theorem mw_355 : Cond.selects RX4 yX4_add yX4_add ∈ ws0 := ws0_2 (List.mem_of_getElem? (i := 191) rfl) rfl
theorem mw_356 : Cond.code yX4_add cX4_add 3 none ∈ ws0 := ws0_2 (List.mem_of_getElem? (i := 192) rfl) rfl
theorem mw_357 : Cond.fieldLink RX4 34 "HiveBylaws$Petitions" "place" "[I" ∈ ws0 := ws0_1 (List.mem_of_getElem? (i := 98) rfl) rfl
theorem mw_358 : Cond.fieldLink RX4 37 "HiveBylaws$Petitions" "doing" "[I" ∈ ws0 := ws0_1 (List.mem_of_getElem? (i := 102) rfl) rfl
theorem mw_359 : Cond.fieldLink RX4 38 "HiveBylaws$Petitions" "kind" "[I" ∈ ws0 := ws0_1 (List.mem_of_getElem? (i := 106) rfl) rfl
theorem mw_360 : Cond.fieldLink RX4 39 "HiveBylaws$Petitions" "support" "[I" ∈ ws0 := ws0_1 (List.mem_of_getElem? (i := 110) rfl) rfl
theorem mw_361 : Cond.methodLink RL 35 yX8_pass ∈ ws0 := ws0_4 (List.mem_of_getElem? (i := 22) rfl) rfl
theorem mw_362 : Cond.instanceMethod yX8_pass ∈ ws0 := ws0_4 (List.mem_of_getElem? (i := 23) rfl) rfl
theorem mw_363 : Cond.selects RX8 yX8_pass yX8_pass ∈ ws0 := ws0_4 (List.mem_of_getElem? (i := 24) rfl) rfl
theorem mw_364 : Cond.code yX8_pass cX8_pass 2 (some .int) ∈ ws0 := ws0_4 (List.mem_of_getElem? (i := 25) rfl) rfl
theorem mw_365 : Cond.methodLink RX8 115 yX8_ends ∈ ws0 := ws0_4 (List.mem_of_getElem? (i := 26) rfl) rfl
theorem mw_366 : Cond.instanceMethod yX8_ends ∈ ws0 := ws0_4 (List.mem_of_getElem? (i := 28) rfl) rfl
theorem mw_367 : Cond.selects RX8 yX8_ends yX8_ends ∈ ws0 := ws0_p (n := 15) (ws0_q2 (List.mem_of_getElem? (i := 6) rfl))
theorem mw_368 : Cond.code yX8_ends cX8_ends 4 (some .int) ∈ ws0 := ws0_4 (List.mem_of_getElem? (i := 29) rfl) rfl
theorem mw_369 : Cond.constant RX8 93 (99999) ∈ ws0 := ws0_4 (List.mem_of_getElem? (i := 30) rfl) rfl
theorem mw_370 : Cond.methodLink RX8 94 yX8_day ∈ ws0 := ws0_4 (List.mem_of_getElem? (i := 31) rfl) rfl
theorem mw_371 : Cond.instanceMethod yX8_day ∈ ws0 := ws0_4 (List.mem_of_getElem? (i := 33) rfl) rfl
theorem mw_372 : Cond.selects RX8 yX8_day yX8_day ∈ ws0 := ws0_p (n := 15) (ws0_q2 (List.mem_of_getElem? (i := 7) rfl))
theorem mw_373 : Cond.code yX8_day cX8_day 4 (some .int) ∈ ws0 := ws0_4 (List.mem_of_getElem? (i := 34) rfl) rfl
theorem mw_374 : Cond.methodLink RX8 72 yX8_hears ∈ ws0 := ws0_4 (List.mem_of_getElem? (i := 35) rfl) rfl
theorem mw_375 : Cond.instanceMethod yX8_hears ∈ ws0 := ws0_4 (List.mem_of_getElem? (i := 37) rfl) rfl
theorem mw_376 : Cond.selects RX8 yX8_hears yX8_hears ∈ ws0 := ws0_p (n := 15) (ws0_q2 (List.mem_of_getElem? (i := 8) rfl))
theorem mw_377 : Cond.code yX8_hears cX8_hears 9 (some .int) ∈ ws0 := ws0_4 (List.mem_of_getElem? (i := 38) rfl) rfl
theorem mw_378 : Cond.methodLink RX8 61 yX8_sorts ∈ ws0 := ws0_4 (List.mem_of_getElem? (i := 39) rfl) rfl
theorem mw_379 : Cond.instanceMethod yX8_sorts ∈ ws0 := ws0_4 (List.mem_of_getElem? (i := 41) rfl) rfl
theorem mw_380 : Cond.selects RX8 yX8_sorts yX8_sorts ∈ ws0 := ws0_p (n := 15) (ws0_q2 (List.mem_of_getElem? (i := 9) rfl))
theorem mw_381 : Cond.code yX8_sorts cX8_sorts 4 none ∈ ws0 := ws0_4 (List.mem_of_getElem? (i := 42) rfl) rfl
theorem mw_382 : Cond.methodLink RX8 65 yX8_refusal ∈ ws0 := ws0_4 (List.mem_of_getElem? (i := 43) rfl) rfl
theorem mw_383 : Cond.instanceMethod yX8_refusal ∈ ws0 := ws0_4 (List.mem_of_getElem? (i := 45) rfl) rfl
theorem mw_384 : Cond.selects RX8 yX8_refusal yX8_refusal ∈ ws0 := ws0_p (n := 15) (ws0_q2 (List.mem_of_getElem? (i := 10) rfl))
theorem mw_385 : Cond.code yX8_refusal cX8_refusal 11 (some .int) ∈ ws0 := ws0_4 (List.mem_of_getElem? (i := 46) rfl) rfl
theorem mw_386 : Cond.methodLink RX8 43 yX8_bylawAt ∈ ws0 := ws0_4 (List.mem_of_getElem? (i := 47) rfl) rfl
theorem mw_387 : Cond.static yX8_bylawAt ∈ ws0 := ws0_4 (List.mem_of_getElem? (i := 48) rfl) rfl
theorem mw_388 : Cond.code yX8_bylawAt cX8_bylawAt 3 (some .int) ∈ ws0 := ws0_4 (List.mem_of_getElem? (i := 49) rfl) rfl
theorem mw_389 : Cond.methodLink RX8 47 yX8_refusedWith ∈ ws0 := ws0_4 (List.mem_of_getElem? (i := 50) rfl) rfl
theorem mw_390 : Cond.instanceMethod yX8_refusedWith ∈ ws0 := ws0_4 (List.mem_of_getElem? (i := 52) rfl) rfl
theorem mw_391 : Cond.selects RX8 yX8_refusedWith yX8_refusedWith ∈ ws0 := ws0_p (n := 15) (ws0_q2 (List.mem_of_getElem? (i := 11) rfl))
theorem mw_392 : Cond.code yX8_refusedWith cX8_refusedWith 9 (some .int) ∈ ws0 := ws0_4 (List.mem_of_getElem? (i := 53) rfl) rfl
theorem mw_393 : Cond.methodLink RX8 51 yX8_weightAt ∈ ws0 := ws0_4 (List.mem_of_getElem? (i := 54) rfl) rfl
theorem mw_394 : Cond.instanceMethod yX8_weightAt ∈ ws0 := ws0_4 (List.mem_of_getElem? (i := 56) rfl) rfl
theorem mw_395 : Cond.selects RX8 yX8_weightAt yX8_weightAt ∈ ws0 := ws0_p (n := 15) (ws0_q2 (List.mem_of_getElem? (i := 12) rfl))
theorem mw_396 : Cond.code yX8_weightAt cX8_weightAt 6 (some .int) ∈ ws0 := ws0_4 (List.mem_of_getElem? (i := 57) rfl) rfl
theorem mw_397 : Cond.methodLink RX8 68 yX8_passes ∈ ws0 := ws0_4 (List.mem_of_getElem? (i := 58) rfl) rfl
theorem mw_398 : Cond.instanceMethod yX8_passes ∈ ws0 := ws0_4 (List.mem_of_getElem? (i := 60) rfl) rfl
theorem mw_399 : Cond.selects RX8 yX8_passes yX8_passes ∈ ws0 := ws0_p (n := 15) (ws0_q2 (List.mem_of_getElem? (i := 13) rfl))
theorem mw_400 : Cond.code yX8_passes cX8_passes 7 none ∈ ws0 := ws0_4 (List.mem_of_getElem? (i := 61) rfl) rfl
theorem mw_401 : Cond.methodLink RX8 54 yX8_flag ∈ ws0 := ws0_4 (List.mem_of_getElem? (i := 62) rfl) rfl
theorem mw_402 : Cond.static yX8_flag ∈ ws0 := ws0_4 (List.mem_of_getElem? (i := 63) rfl) rfl
theorem mw_403 : Cond.code yX8_flag cX8_flag 1 (some .int) ∈ ws0 := ws0_4 (List.mem_of_getElem? (i := 64) rfl) rfl
theorem mw_404 : Cond.methodLink RL 36 yX7_set ∈ ws0 := ws0_2 (List.mem_of_getElem? (i := 193) rfl) rfl
theorem mw_405 : Cond.instanceMethod yX7_set ∈ ws0 := ws0_2 (List.mem_of_getElem? (i := 194) rfl) rfl
theorem mw_406 : Cond.selects RX7 yX7_set yX7_set ∈ ws0 := ws0_2 (List.mem_of_getElem? (i := 195) rfl) rfl
theorem mw_407 : Cond.code yX7_set cX7_set 3 (some .int) ∈ ws0 := ws0_2 (List.mem_of_getElem? (i := 196) rfl) rfl
theorem mw_408 : Cond.methodLink RX7 64 yX5_changeSetting ∈ ws0 := ws0_2 (List.mem_of_getElem? (i := 197) rfl) rfl
theorem mw_409 : Cond.instanceMethod yX5_changeSetting ∈ ws0 := ws0_2 (List.mem_of_getElem? (i := 198) rfl) rfl
theorem mw_410 : Cond.selects RX5 yX5_changeSetting yX5_changeSetting ∈ ws0 := ws0_2 (List.mem_of_getElem? (i := 199) rfl) rfl
theorem mw_411 : Cond.code yX5_changeSetting cX5_changeSetting 5 (some .int) ∈ ws0 := ws0_2 (List.mem_of_getElem? (i := 200) rfl) rfl
theorem mw_412 : Cond.methodLink RL 39 yX8_set ∈ ws0 := ws0_4 (List.mem_of_getElem? (i := 65) rfl) rfl
theorem mw_413 : Cond.instanceMethod yX8_set ∈ ws0 := ws0_4 (List.mem_of_getElem? (i := 66) rfl) rfl
theorem mw_414 : Cond.selects RX8 yX8_set yX8_set ∈ ws0 := ws0_4 (List.mem_of_getElem? (i := 67) rfl) rfl
theorem mw_415 : Cond.code yX8_set cX8_set 3 (some .int) ∈ ws0 := ws0_4 (List.mem_of_getElem? (i := 68) rfl) rfl
theorem mw_416 : Cond.methodLink RX8 118 yX8_sets ∈ ws0 := ws0_4 (List.mem_of_getElem? (i := 69) rfl) rfl
theorem mw_417 : Cond.instanceMethod yX8_sets ∈ ws0 := ws0_4 (List.mem_of_getElem? (i := 71) rfl) rfl
theorem mw_418 : Cond.selects RX8 yX8_sets yX8_sets ∈ ws0 := ws0_p (n := 15) (ws0_q2 (List.mem_of_getElem? (i := 14) rfl))
theorem mw_419 : Cond.code yX8_sets cX8_sets 4 (some .int) ∈ ws0 := ws0_4 (List.mem_of_getElem? (i := 72) rfl) rfl
theorem mw_420 : Cond.methodLink RL 40 yX7_type ∈ ws0 := ws0_2 (List.mem_of_getElem? (i := 201) rfl) rfl
theorem mw_421 : Cond.instanceMethod yX7_type ∈ ws0 := ws0_2 (List.mem_of_getElem? (i := 202) rfl) rfl
theorem mw_422 : Cond.selects RX7 yX7_type yX7_type ∈ ws0 := ws0_2 (List.mem_of_getElem? (i := 203) rfl) rfl
theorem mw_423 : Cond.code yX7_type cX7_type 2 (some .int) ∈ ws0 := ws0_2 (List.mem_of_getElem? (i := 204) rfl) rfl
theorem mw_424 : Cond.methodLink RX7 67 yX2_append ∈ ws0 := ws0_2 (List.mem_of_getElem? (i := 205) rfl) rfl
theorem mw_425 : Cond.instanceMethod yX2_append ∈ ws0 := ws0_2 (List.mem_of_getElem? (i := 206) rfl) rfl
theorem mw_426 : Cond.selects RX2 yX2_append yX2_append ∈ ws0 := ws0_2 (List.mem_of_getElem? (i := 207) rfl) rfl
theorem mw_427 : Cond.code yX2_append cX2_append 2 (some .int) ∈ ws0 := ws0_2 (List.mem_of_getElem? (i := 208) rfl) rfl
theorem mw_428 : Cond.fieldLink RX2 31 "HiveBylaws$PetitionText" "length" "I" ∈ ws0 := ws0_1 (List.mem_of_getElem? (i := 221) rfl) rfl
theorem mw_429 : Cond.methodLink RL 44 yX8_type ∈ ws0 := ws0_4 (List.mem_of_getElem? (i := 73) rfl) rfl
theorem mw_430 : Cond.instanceMethod yX8_type ∈ ws0 := ws0_4 (List.mem_of_getElem? (i := 74) rfl) rfl
theorem mw_431 : Cond.selects RX8 yX8_type yX8_type ∈ ws0 := ws0_4 (List.mem_of_getElem? (i := 75) rfl) rfl
theorem mw_432 : Cond.code yX8_type cX8_type 2 (some .int) ∈ ws0 := ws0_4 (List.mem_of_getElem? (i := 76) rfl) rfl
theorem mw_433 : Cond.fieldLink RX8 121 "HiveBylawsModel" "typed" "I" ∈ ws0 := ws0_3 (List.mem_of_getElem? (i := 149) rfl) rfl
theorem mw_434 : Cond.methodLink RL 45 yX7_clearText ∈ ws0 := ws0_2 (List.mem_of_getElem? (i := 209) rfl) rfl
theorem mw_435 : Cond.instanceMethod yX7_clearText ∈ ws0 := ws0_2 (List.mem_of_getElem? (i := 210) rfl) rfl
theorem mw_436 : Cond.selects RX7 yX7_clearText yX7_clearText ∈ ws0 := ws0_2 (List.mem_of_getElem? (i := 211) rfl) rfl
theorem mw_437 : Cond.code yX7_clearText cX7_clearText 1 (some .int) ∈ ws0 := ws0_2 (List.mem_of_getElem? (i := 212) rfl) rfl
theorem mw_438 : Cond.methodLink RX7 71 yX2_empty ∈ ws0 := ws0_2 (List.mem_of_getElem? (i := 213) rfl) rfl
theorem mw_439 : Cond.instanceMethod yX2_empty ∈ ws0 := ws0_2 (List.mem_of_getElem? (i := 214) rfl) rfl
theorem mw_440 : Cond.selects RX2 yX2_empty yX2_empty ∈ ws0 := ws0_2 (List.mem_of_getElem? (i := 215) rfl) rfl
theorem mw_441 : Cond.code yX2_empty cX2_empty 2 (some .int) ∈ ws0 := ws0_2 (List.mem_of_getElem? (i := 216) rfl) rfl
theorem mw_442 : Cond.methodLink RL 49 yX8_clearText ∈ ws0 := ws0_4 (List.mem_of_getElem? (i := 77) rfl) rfl
theorem mw_443 : Cond.instanceMethod yX8_clearText ∈ ws0 := ws0_4 (List.mem_of_getElem? (i := 78) rfl) rfl
theorem mw_444 : Cond.selects RX8 yX8_clearText yX8_clearText ∈ ws0 := ws0_4 (List.mem_of_getElem? (i := 79) rfl) rfl
theorem mw_445 : Cond.code yX8_clearText cX8_clearText 2 (some .int) ∈ ws0 := ws0_4 (List.mem_of_getElem? (i := 80) rfl) rfl
theorem mw_446 : Cond.methodLink RL 50 yX7_perform ∈ ws0 := ws0_2 (List.mem_of_getElem? (i := 217) rfl) rfl
theorem mw_447 : Cond.instanceMethod yX7_perform ∈ ws0 := ws0_2 (List.mem_of_getElem? (i := 218) rfl) rfl
theorem mw_448 : Cond.selects RX7 yX7_perform yX7_perform ∈ ws0 := ws0_2 (List.mem_of_getElem? (i := 219) rfl) rfl
theorem mw_449 : Cond.code yX7_perform cX7_perform 4 (some .int) ∈ ws0 := ws0_2 (List.mem_of_getElem? (i := 220) rfl) rfl
theorem mw_450 : Cond.fieldLink RX7 78 "HiveBylaws$PetitionText" "things" "I" ∈ ws0 := ws0_1 (List.mem_of_getElem? (i := 225) rfl) rfl
theorem mw_451 : Cond.fieldLink RX7 85 "HiveBylaws" "stopNumber" "I" ∈ ws0 := ws0_2 (List.mem_of_getElem? (i := 23) rfl) rfl
theorem mw_452 : Cond.fieldLink RX7 88 "HiveBylaws" "stopError" "I" ∈ ws0 := ws0_2 (List.mem_of_getElem? (i := 24) rfl) rfl
theorem mw_453 : Cond.methodLink RX7 75 yX2_read ∈ ws0 := ws0_2 (List.mem_of_getElem? (i := 221) rfl) rfl
theorem mw_454 : Cond.instanceMethod yX2_read ∈ ws0 := ws0_2 (List.mem_of_getElem? (i := 222) rfl) rfl
theorem mw_455 : Cond.selects RX2 yX2_read yX2_read ∈ ws0 := ws0_2 (List.mem_of_getElem? (i := 223) rfl) rfl
theorem mw_456 : Cond.code yX2_read cX2_read 1 (some .int) ∈ ws0 := ws0_2 (List.mem_of_getElem? (i := 224) rfl) rfl
theorem mw_457 : Cond.fieldLink RX2 35 "HiveBylaws$PetitionText" "at" "I" ∈ ws0 := ws0_1 (List.mem_of_getElem? (i := 223) rfl) rfl
theorem mw_458 : Cond.fieldLink RX2 38 "HiveBylaws$PetitionText" "things" "I" ∈ ws0 := ws0_1 (List.mem_of_getElem? (i := 224) rfl) rfl
theorem mw_459 : Cond.methodLink RX2 41 yX2_readThing ∈ ws0 := ws0_2 (List.mem_of_getElem? (i := 225) rfl) rfl
theorem mw_460 : Cond.instanceMethod yX2_readThing ∈ ws0 := ws0_2 (List.mem_of_getElem? (i := 227) rfl) rfl
theorem mw_461 : Cond.selects RX2 yX2_readThing yX2_readThing ∈ ws0 := ws0_p (n := 9) (ws0_q1 (List.mem_of_getElem? (i := 4) rfl))
theorem mw_462 : Cond.code yX2_readThing cX2_readThing 2 (some .boolean) ∈ ws0 := ws0_2 (List.mem_of_getElem? (i := 228) rfl) rfl
theorem mw_463 : Cond.methodLink RX2 45 yX2_skip ∈ ws0 := ws0_2 (List.mem_of_getElem? (i := 229) rfl) rfl
theorem mw_464 : Cond.instanceMethod yX2_skip ∈ ws0 := ws0_2 (List.mem_of_getElem? (i := 231) rfl) rfl
theorem mw_465 : Cond.selects RX2 yX2_skip yX2_skip ∈ ws0 := ws0_p (n := 9) (ws0_q1 (List.mem_of_getElem? (i := 5) rfl))
theorem mw_466 : Cond.code yX2_skip cX2_skip 2 (some .boolean) ∈ ws0 := ws0_2 (List.mem_of_getElem? (i := 232) rfl) rfl
theorem mw_467 : Cond.methodLink RX2 49 yX2_readPetition ∈ ws0 := ws0_2 (List.mem_of_getElem? (i := 233) rfl) rfl
theorem mw_468 : Cond.instanceMethod yX2_readPetition ∈ ws0 := ws0_2 (List.mem_of_getElem? (i := 235) rfl) rfl
theorem mw_469 : Cond.selects RX2 yX2_readPetition yX2_readPetition ∈ ws0 := ws0_p (n := 9) (ws0_q1 (List.mem_of_getElem? (i := 6) rfl))
theorem mw_470 : Cond.code yX2_readPetition cX2_readPetition 2 (some .boolean) ∈ ws0 := ws0_2 (List.mem_of_getElem? (i := 236) rfl) rfl
theorem mw_471 : Cond.methodLink RX2 55 yX2_readNumber ∈ ws0 := ws0_2 (List.mem_of_getElem? (i := 237) rfl) rfl
theorem mw_472 : Cond.instanceMethod yX2_readNumber ∈ ws0 := ws0_2 (List.mem_of_getElem? (i := 239) rfl) rfl
theorem mw_473 : Cond.selects RX2 yX2_readNumber yX2_readNumber ∈ ws0 := ws0_p (n := 9) (ws0_q1 (List.mem_of_getElem? (i := 7) rfl))
theorem mw_474 : Cond.code yX2_readNumber cX2_readNumber 5 (some .int) ∈ ws0 := ws0_3 (List.mem_of_getElem? (i := 0) rfl) rfl
theorem mw_475 : Cond.methodLink RX2 63 yX2_digitHere ∈ ws0 := ws0_3 (List.mem_of_getElem? (i := 1) rfl) rfl
theorem mw_476 : Cond.instanceMethod yX2_digitHere ∈ ws0 := ws0_3 (List.mem_of_getElem? (i := 3) rfl) rfl
theorem mw_477 : Cond.selects RX2 yX2_digitHere yX2_digitHere ∈ ws0 := ws0_p (n := 9) (ws0_q1 (List.mem_of_getElem? (i := 8) rfl))
theorem mw_478 : Cond.code yX2_digitHere cX2_digitHere 1 (some .int) ∈ ws0 := ws0_3 (List.mem_of_getElem? (i := 4) rfl) rfl
theorem mw_479 : Cond.methodLink RX2 59 yX2_readKind ∈ ws0 := ws0_3 (List.mem_of_getElem? (i := 5) rfl) rfl
theorem mw_480 : Cond.instanceMethod yX2_readKind ∈ ws0 := ws0_3 (List.mem_of_getElem? (i := 7) rfl) rfl
theorem mw_481 : Cond.selects RX2 yX2_readKind yX2_readKind ∈ ws0 := ws0_p (n := 9) (ws0_q1 (List.mem_of_getElem? (i := 9) rfl))
theorem mw_482 : Cond.code yX2_readKind cX2_readKind 1 (some .int) ∈ ws0 := ws0_3 (List.mem_of_getElem? (i := 8) rfl) rfl
theorem mw_483 : Cond.methodLink RX2 52 yX2_readSeconding ∈ ws0 := ws0_3 (List.mem_of_getElem? (i := 9) rfl) rfl
theorem mw_484 : Cond.instanceMethod yX2_readSeconding ∈ ws0 := ws0_3 (List.mem_of_getElem? (i := 11) rfl) rfl
theorem mw_485 : Cond.selects RX2 yX2_readSeconding yX2_readSeconding ∈ ws0 := ws0_p (n := 9) (ws0_q1 (List.mem_of_getElem? (i := 10) rfl))
theorem mw_486 : Cond.code yX2_readSeconding cX2_readSeconding 2 (some .boolean) ∈ ws0 := ws0_3 (List.mem_of_getElem? (i := 12) rfl) rfl
theorem mw_487 : Cond.methodLink RX7 82 yX7_doThing ∈ ws0 := ws0_3 (List.mem_of_getElem? (i := 13) rfl) rfl
theorem mw_488 : Cond.instanceMethod yX7_doThing ∈ ws0 := ws0_3 (List.mem_of_getElem? (i := 15) rfl) rfl
theorem mw_489 : Cond.selects RX7 yX7_doThing yX7_doThing ∈ ws0 := ws0_p (n := 9) (ws0_q1 (List.mem_of_getElem? (i := 11) rfl))
theorem mw_490 : Cond.code yX7_doThing cX7_doThing 2 (some .int) ∈ ws0 := ws0_3 (List.mem_of_getElem? (i := 16) rfl) rfl
theorem mw_491 : Cond.fieldLink RX7 253 "HiveBylaws$PetitionText" "act" "[I" ∈ ws0 := ws0_1 (List.mem_of_getElem? (i := 227) rfl) rfl
theorem mw_492 : Cond.fieldLink RX7 256 "HiveBylaws$PetitionText" "drone" "[I" ∈ ws0 := ws0_1 (List.mem_of_getElem? (i := 229) rfl) rfl
theorem mw_493 : Cond.fieldLink RX7 257 "HiveBylaws$PetitionText" "number" "[I" ∈ ws0 := ws0_1 (List.mem_of_getElem? (i := 231) rfl) rfl
theorem mw_494 : Cond.fieldLink RX7 260 "HiveBylaws$PetitionText" "doing" "[I" ∈ ws0 := ws0_1 (List.mem_of_getElem? (i := 233) rfl) rfl
theorem mw_495 : Cond.fieldLink RX7 261 "HiveBylaws$PetitionText" "kind" "[I" ∈ ws0 := ws0_1 (List.mem_of_getElem? (i := 235) rfl) rfl
theorem mw_496 : Cond.methodLink RL 53 yX8_perform ∈ ws0 := ws0_4 (List.mem_of_getElem? (i := 81) rfl) rfl
theorem mw_497 : Cond.instanceMethod yX8_perform ∈ ws0 := ws0_4 (List.mem_of_getElem? (i := 82) rfl) rfl
theorem mw_498 : Cond.selects RX8 yX8_perform yX8_perform ∈ ws0 := ws0_4 (List.mem_of_getElem? (i := 83) rfl) rfl
theorem mw_499 : Cond.code yX8_perform cX8_perform 6 (some .int) ∈ ws0 := ws0_4 (List.mem_of_getElem? (i := 84) rfl) rfl
theorem mw_500 : Cond.fieldLink RX8 124 "HiveBylawsModel" "spot" "I" ∈ ws0 := ws0_3 (List.mem_of_getElem? (i := 154) rfl) rfl
theorem mw_501 : Cond.methodLink RX8 159 yX8_fault ∈ ws0 := ws0_4 (List.mem_of_getElem? (i := 85) rfl) rfl
theorem mw_502 : Cond.instanceMethod yX8_fault ∈ ws0 := ws0_4 (List.mem_of_getElem? (i := 87) rfl) rfl
theorem mw_503 : Cond.selects RX8 yX8_fault yX8_fault ∈ ws0 := ws0_p (n := 15) (ws0_q2 (List.mem_of_getElem? (i := 15) rfl))
theorem mw_504 : Cond.code yX8_fault cX8_fault 2 (some .int) ∈ ws0 := ws0_4 (List.mem_of_getElem? (i := 88) rfl) rfl
theorem mw_505 : Cond.methodLink RX8 156 yX8_readsThing ∈ ws0 := ws0_4 (List.mem_of_getElem? (i := 89) rfl) rfl
theorem mw_506 : Cond.instanceMethod yX8_readsThing ∈ ws0 := ws0_4 (List.mem_of_getElem? (i := 91) rfl) rfl
theorem mw_507 : Cond.selects RX8 yX8_readsThing yX8_readsThing ∈ ws0 := ws0_p (n := 15) (ws0_q3 (List.mem_of_getElem? (i := 0) rfl))
theorem mw_508 : Cond.code yX8_readsThing cX8_readsThing 1 (some .boolean) ∈ ws0 := ws0_4 (List.mem_of_getElem? (i := 92) rfl) rfl
theorem mw_509 : Cond.fieldLink RX8 149 "HiveBylawsModel" "letter" "I" ∈ ws0 := ws0_3 (List.mem_of_getElem? (i := 155) rfl) rfl
theorem mw_510 : Cond.fieldLink RX8 134 "HiveBylawsModel" "one" "I" ∈ ws0 := ws0_3 (List.mem_of_getElem? (i := 156) rfl) rfl
theorem mw_511 : Cond.fieldLink RX8 140 "HiveBylawsModel" "two" "I" ∈ ws0 := ws0_3 (List.mem_of_getElem? (i := 157) rfl) rfl
theorem mw_512 : Cond.methodLink RX8 152 yX8_readsPetition ∈ ws0 := ws0_4 (List.mem_of_getElem? (i := 93) rfl) rfl
theorem mw_513 : Cond.instanceMethod yX8_readsPetition ∈ ws0 := ws0_4 (List.mem_of_getElem? (i := 95) rfl) rfl
theorem mw_514 : Cond.selects RX8 yX8_readsPetition yX8_readsPetition ∈ ws0 := ws0_p (n := 15) (ws0_q3 (List.mem_of_getElem? (i := 1) rfl))
theorem mw_515 : Cond.code yX8_readsPetition cX8_readsPetition 1 (some .boolean) ∈ ws0 := ws0_4 (List.mem_of_getElem? (i := 96) rfl) rfl
theorem mw_516 : Cond.fieldLink RX8 143 "HiveBylawsModel" "three" "I" ∈ ws0 := ws0_3 (List.mem_of_getElem? (i := 158) rfl) rfl
theorem mw_517 : Cond.fieldLink RX8 146 "HiveBylawsModel" "four" "I" ∈ ws0 := ws0_3 (List.mem_of_getElem? (i := 159) rfl) rfl
theorem mw_518 : Cond.methodLink RX8 131 yX8_number ∈ ws0 := ws0_4 (List.mem_of_getElem? (i := 97) rfl) rfl
theorem mw_519 : Cond.instanceMethod yX8_number ∈ ws0 := ws0_4 (List.mem_of_getElem? (i := 99) rfl) rfl
theorem mw_520 : Cond.selects RX8 yX8_number yX8_number ∈ ws0 := ws0_p (n := 15) (ws0_q3 (List.mem_of_getElem? (i := 2) rfl))
theorem mw_521 : Cond.code yX8_number cX8_number 5 (some .int) ∈ ws0 := ws0_4 (List.mem_of_getElem? (i := 100) rfl) rfl
theorem mw_522 : Cond.methodLink RX8 127 yX8_isHere ∈ ws0 := ws0_4 (List.mem_of_getElem? (i := 101) rfl) rfl
theorem mw_523 : Cond.instanceMethod yX8_isHere ∈ ws0 := ws0_4 (List.mem_of_getElem? (i := 103) rfl) rfl
theorem mw_524 : Cond.selects RX8 yX8_isHere yX8_isHere ∈ ws0 := ws0_p (n := 15) (ws0_q3 (List.mem_of_getElem? (i := 3) rfl))
theorem mw_525 : Cond.code yX8_isHere cX8_isHere 3 (some .boolean) ∈ ws0 := ws0_4 (List.mem_of_getElem? (i := 104) rfl) rfl
theorem mw_526 : Cond.methodLink RX8 137 yX8_takes ∈ ws0 := ws0_4 (List.mem_of_getElem? (i := 105) rfl) rfl
theorem mw_527 : Cond.instanceMethod yX8_takes ∈ ws0 := ws0_4 (List.mem_of_getElem? (i := 107) rfl) rfl
theorem mw_528 : Cond.selects RX8 yX8_takes yX8_takes ∈ ws0 := ws0_p (n := 15) (ws0_q3 (List.mem_of_getElem? (i := 4) rfl))
theorem mw_529 : Cond.code yX8_takes cX8_takes 3 (some .boolean) ∈ ws0 := ws0_4 (List.mem_of_getElem? (i := 108) rfl) rfl
theorem mw_530 : Cond.methodLink RX8 163 yX8_does ∈ ws0 := ws0_4 (List.mem_of_getElem? (i := 109) rfl) rfl
theorem mw_531 : Cond.instanceMethod yX8_does ∈ ws0 := ws0_4 (List.mem_of_getElem? (i := 111) rfl) rfl
theorem mw_532 : Cond.selects RX8 yX8_does yX8_does ∈ ws0 := ws0_p (n := 15) (ws0_q3 (List.mem_of_getElem? (i := 5) rfl))
theorem mw_533 : Cond.code yX8_does cX8_does 1 (some .int) ∈ ws0 := ws0_4 (List.mem_of_getElem? (i := 112) rfl) rfl
theorem mw_534 : Cond.methodLink RL 54 yX7_stopped ∈ ws0 := ws0_3 (List.mem_of_getElem? (i := 17) rfl) rfl
theorem mw_535 : Cond.instanceMethod yX7_stopped ∈ ws0 := ws0_3 (List.mem_of_getElem? (i := 18) rfl) rfl
theorem mw_536 : Cond.selects RX7 yX7_stopped yX7_stopped ∈ ws0 := ws0_3 (List.mem_of_getElem? (i := 19) rfl) rfl
theorem mw_537 : Cond.code yX7_stopped cX7_stopped 2 (some .int) ∈ ws0 := ws0_3 (List.mem_of_getElem? (i := 20) rfl) rfl
theorem mw_538 : Cond.methodLink RL 57 yX8_stopped ∈ ws0 := ws0_4 (List.mem_of_getElem? (i := 113) rfl) rfl
theorem mw_539 : Cond.instanceMethod yX8_stopped ∈ ws0 := ws0_4 (List.mem_of_getElem? (i := 114) rfl) rfl
theorem mw_540 : Cond.selects RX8 yX8_stopped yX8_stopped ∈ ws0 := ws0_4 (List.mem_of_getElem? (i := 115) rfl) rfl
theorem mw_541 : Cond.code yX8_stopped cX8_stopped 2 (some .int) ∈ ws0 := ws0_4 (List.mem_of_getElem? (i := 116) rfl) rfl
theorem mw_542 : Cond.methodLink RL 58 yX7_undo ∈ ws0 := ws0_3 (List.mem_of_getElem? (i := 21) rfl) rfl
theorem mw_543 : Cond.instanceMethod yX7_undo ∈ ws0 := ws0_3 (List.mem_of_getElem? (i := 22) rfl) rfl
theorem mw_544 : Cond.selects RX7 yX7_undo yX7_undo ∈ ws0 := ws0_3 (List.mem_of_getElem? (i := 23) rfl) rfl
theorem mw_545 : Cond.code yX7_undo cX7_undo 1 (some .int) ∈ ws0 := ws0_3 (List.mem_of_getElem? (i := 24) rfl) rfl
theorem mw_546 : Cond.methodLink RX7 91 yX0_takeBack ∈ ws0 := ws0_3 (List.mem_of_getElem? (i := 25) rfl) rfl
theorem mw_547 : Cond.instanceMethod yX0_takeBack ∈ ws0 := ws0_3 (List.mem_of_getElem? (i := 26) rfl) rfl
theorem mw_548 : Cond.selects RX0 yX0_takeBack yX0_takeBack ∈ ws0 := ws0_3 (List.mem_of_getElem? (i := 27) rfl) rfl
theorem mw_549 : Cond.code yX0_takeBack cX0_takeBack 2 (some .int) ∈ ws0 := ws0_3 (List.mem_of_getElem? (i := 28) rfl) rfl
theorem mw_550 : Cond.methodLink RL 61 yX8_undo ∈ ws0 := ws0_4 (List.mem_of_getElem? (i := 117) rfl) rfl
theorem mw_551 : Cond.instanceMethod yX8_undo ∈ ws0 := ws0_4 (List.mem_of_getElem? (i := 118) rfl) rfl
theorem mw_552 : Cond.selects RX8 yX8_undo yX8_undo ∈ ws0 := ws0_4 (List.mem_of_getElem? (i := 119) rfl) rfl
theorem mw_553 : Cond.code yX8_undo cX8_undo 1 (some .int) ∈ ws0 := ws0_4 (List.mem_of_getElem? (i := 120) rfl) rfl
theorem mw_554 : Cond.methodLink RL 62 yX7_keep ∈ ws0 := ws0_3 (List.mem_of_getElem? (i := 29) rfl) rfl
theorem mw_555 : Cond.instanceMethod yX7_keep ∈ ws0 := ws0_3 (List.mem_of_getElem? (i := 30) rfl) rfl
theorem mw_556 : Cond.selects RX7 yX7_keep yX7_keep ∈ ws0 := ws0_3 (List.mem_of_getElem? (i := 31) rfl) rfl
theorem mw_557 : Cond.code yX7_keep cX7_keep 1 (some .int) ∈ ws0 := ws0_3 (List.mem_of_getElem? (i := 32) rfl) rfl
theorem mw_558 : Cond.fieldLink RX7 95 "HiveBylaws" "hasSnapshot" "Z" ∈ ws0 := ws0_2 (List.mem_of_getElem? (i := 20) rfl) rfl
theorem mw_559 : Cond.fieldLink RX7 99 "HiveBylaws$State" "laws" "LHiveBylaws$Laws;" ∈ ws0 := ws0_1 (List.mem_of_getElem? (i := 157) rfl) rfl
theorem mw_560 : Cond.methodLink RX7 103 yX1_size ∈ ws0 := ws0_3 (List.mem_of_getElem? (i := 33) rfl) rfl
theorem mw_561 : Cond.instanceMethod yX1_size ∈ ws0 := ws0_3 (List.mem_of_getElem? (i := 34) rfl) rfl
theorem mw_562 : Cond.selects RX1 yX1_size yX1_size ∈ ws0 := ws0_3 (List.mem_of_getElem? (i := 35) rfl) rfl
theorem mw_563 : Cond.code yX1_size cX1_size 1 (some .int) ∈ ws0 := ws0_3 (List.mem_of_getElem? (i := 36) rfl) rfl
theorem mw_564 : Cond.methodLink RX1 27 yX1_rankOf ∈ ws0 := ws0_3 (List.mem_of_getElem? (i := 37) rfl) rfl
theorem mw_565 : Cond.instanceMethod yX1_rankOf ∈ ws0 := ws0_3 (List.mem_of_getElem? (i := 38) rfl) rfl
theorem mw_566 : Cond.selects RX1 yX1_rankOf yX1_rankOf ∈ ws0 := ws0_3 (List.mem_of_getElem? (i := 39) rfl) rfl
theorem mw_567 : Cond.code yX1_rankOf cX1_rankOf 4 (some .int) ∈ ws0 := ws0_3 (List.mem_of_getElem? (i := 40) rfl) rfl
theorem mw_568 : Cond.methodLink RL 65 yX8_keep ∈ ws0 := ws0_4 (List.mem_of_getElem? (i := 121) rfl) rfl
theorem mw_569 : Cond.instanceMethod yX8_keep ∈ ws0 := ws0_4 (List.mem_of_getElem? (i := 122) rfl) rfl
theorem mw_570 : Cond.selects RX8 yX8_keep yX8_keep ∈ ws0 := ws0_4 (List.mem_of_getElem? (i := 123) rfl) rfl
theorem mw_571 : Cond.code yX8_keep cX8_keep 1 (some .int) ∈ ws0 := ws0_4 (List.mem_of_getElem? (i := 124) rfl) rfl
theorem mw_572 : Cond.fieldLink RX8 166 "HiveBylawsModel" "isKept" "Z" ∈ ws0 := ws0_3 (List.mem_of_getElem? (i := 147) rfl) rfl
theorem mw_573 : Cond.methodLink RX8 170 yX8_bylaws ∈ ws0 := ws0_4 (List.mem_of_getElem? (i := 125) rfl) rfl
theorem mw_574 : Cond.instanceMethod yX8_bylaws ∈ ws0 := ws0_4 (List.mem_of_getElem? (i := 127) rfl) rfl
theorem mw_575 : Cond.selects RX8 yX8_bylaws yX8_bylaws ∈ ws0 := ws0_p (n := 15) (ws0_q3 (List.mem_of_getElem? (i := 6) rfl))
theorem mw_576 : Cond.code yX8_bylaws cX8_bylaws 5 (some .int) ∈ ws0 := ws0_4 (List.mem_of_getElem? (i := 128) rfl) rfl
theorem mw_577 : Cond.methodLink RL 66 yX7_restore ∈ ws0 := ws0_3 (List.mem_of_getElem? (i := 41) rfl) rfl
theorem mw_578 : Cond.instanceMethod yX7_restore ∈ ws0 := ws0_3 (List.mem_of_getElem? (i := 42) rfl) rfl
theorem mw_579 : Cond.selects RX7 yX7_restore yX7_restore ∈ ws0 := ws0_3 (List.mem_of_getElem? (i := 43) rfl) rfl
theorem mw_580 : Cond.code yX7_restore cX7_restore 1 (some .int) ∈ ws0 := ws0_3 (List.mem_of_getElem? (i := 44) rfl) rfl
theorem mw_581 : Cond.methodLink RL 69 yX8_restore ∈ ws0 := ws0_4 (List.mem_of_getElem? (i := 129) rfl) rfl
theorem mw_582 : Cond.instanceMethod yX8_restore ∈ ws0 := ws0_4 (List.mem_of_getElem? (i := 130) rfl) rfl
theorem mw_583 : Cond.selects RX8 yX8_restore yX8_restore ∈ ws0 := ws0_4 (List.mem_of_getElem? (i := 131) rfl) rfl
theorem mw_584 : Cond.code yX8_restore cX8_restore 1 (some .int) ∈ ws0 := ws0_4 (List.mem_of_getElem? (i := 132) rfl) rfl
theorem mw_585 : Cond.methodLink RL 70 yX7_drone ∈ ws0 := ws0_3 (List.mem_of_getElem? (i := 45) rfl) rfl
theorem mw_586 : Cond.instanceMethod yX7_drone ∈ ws0 := ws0_3 (List.mem_of_getElem? (i := 46) rfl) rfl
theorem mw_587 : Cond.selects RX7 yX7_drone yX7_drone ∈ ws0 := ws0_3 (List.mem_of_getElem? (i := 47) rfl) rfl
theorem mw_588 : Cond.code yX7_drone cX7_drone 4 (some .int) ∈ ws0 := ws0_3 (List.mem_of_getElem? (i := 48) rfl) rfl
theorem mw_589 : Cond.fieldLink RX7 108 "HiveBylaws$State" "swarm" "LHiveBylaws$Swarm;" ∈ ws0 := ws0_1 (List.mem_of_getElem? (i := 155) rfl) rfl
theorem mw_590 : Cond.fieldLink RX7 118 "HiveBylaws$Swarm" "comb" "[I" ∈ ws0 := ws0_1 (List.mem_of_getElem? (i := 36) rfl) rfl
theorem mw_591 : Cond.fieldLink RX7 122 "HiveBylaws$Swarm" "weight" "[I" ∈ ws0 := ws0_1 (List.mem_of_getElem? (i := 39) rfl) rfl
theorem mw_592 : Cond.fieldLink RX7 125 "HiveBylaws$State" "petitions" "LHiveBylaws$Petitions;" ∈ ws0 := ws0_1 (List.mem_of_getElem? (i := 159) rfl) rfl
theorem mw_593 : Cond.fieldLink RX7 137 "HiveBylaws$Swarm" "made" "[I" ∈ ws0 := ws0_1 (List.mem_of_getElem? (i := 42) rfl) rfl
theorem mw_594 : Cond.fieldLink RX7 140 "HiveBylaws$Swarm" "passed" "[I" ∈ ws0 := ws0_1 (List.mem_of_getElem? (i := 45) rfl) rfl
theorem mw_595 : Cond.fieldLink RX7 143 "HiveBylaws$Swarm" "refused" "[I" ∈ ws0 := ws0_1 (List.mem_of_getElem? (i := 48) rfl) rfl
theorem mw_596 : Cond.methodLink RX7 112 yX6_knows ∈ ws0 := ws0_3 (List.mem_of_getElem? (i := 49) rfl) rfl
theorem mw_597 : Cond.methodLink RX7 129 yX3_madeBy ∈ ws0 := ws0_3 (List.mem_of_getElem? (i := 50) rfl) rfl
theorem mw_598 : Cond.methodLink RX7 134 yX3_secondedBy ∈ ws0 := ws0_3 (List.mem_of_getElem? (i := 51) rfl) rfl
theorem mw_599 : Cond.instanceMethod yX3_secondedBy ∈ ws0 := ws0_3 (List.mem_of_getElem? (i := 52) rfl) rfl
theorem mw_600 : Cond.selects RX3 yX3_secondedBy yX3_secondedBy ∈ ws0 := ws0_3 (List.mem_of_getElem? (i := 53) rfl) rfl
theorem mw_601 : Cond.code yX3_secondedBy cX3_secondedBy 4 (some .int) ∈ ws0 := ws0_3 (List.mem_of_getElem? (i := 54) rfl) rfl
theorem mw_602 : Cond.methodLink RL 73 yX8_drone ∈ ws0 := ws0_4 (List.mem_of_getElem? (i := 133) rfl) rfl
theorem mw_603 : Cond.instanceMethod yX8_drone ∈ ws0 := ws0_4 (List.mem_of_getElem? (i := 134) rfl) rfl
theorem mw_604 : Cond.selects RX8 yX8_drone yX8_drone ∈ ws0 := ws0_4 (List.mem_of_getElem? (i := 135) rfl) rfl
theorem mw_605 : Cond.code yX8_drone cX8_drone 3 (some .int) ∈ ws0 := ws0_4 (List.mem_of_getElem? (i := 136) rfl) rfl
theorem mw_606 : Cond.methodLink RX8 173 yX8_secondedBy ∈ ws0 := ws0_4 (List.mem_of_getElem? (i := 137) rfl) rfl
theorem mw_607 : Cond.instanceMethod yX8_secondedBy ∈ ws0 := ws0_4 (List.mem_of_getElem? (i := 139) rfl) rfl
theorem mw_608 : Cond.selects RX8 yX8_secondedBy yX8_secondedBy ∈ ws0 := ws0_p (n := 15) (ws0_q3 (List.mem_of_getElem? (i := 7) rfl))
theorem mw_609 : Cond.code yX8_secondedBy cX8_secondedBy 4 (some .int) ∈ ws0 := ws0_4 (List.mem_of_getElem? (i := 140) rfl) rfl
theorem mw_610 : Cond.methodLink RL 74 yX7_bylaw ∈ ws0 := ws0_3 (List.mem_of_getElem? (i := 55) rfl) rfl
theorem mw_611 : Cond.instanceMethod yX7_bylaw ∈ ws0 := ws0_3 (List.mem_of_getElem? (i := 56) rfl) rfl
theorem mw_612 : Cond.selects RX7 yX7_bylaw yX7_bylaw ∈ ws0 := ws0_3 (List.mem_of_getElem? (i := 57) rfl) rfl
theorem mw_613 : Cond.code yX7_bylaw cX7_bylaw 5 (some .int) ∈ ws0 := ws0_3 (List.mem_of_getElem? (i := 58) rfl) rfl
theorem mw_614 : Cond.fieldLink RX7 149 "HiveBylaws$Laws" "stance" "[I" ∈ ws0 := ws0_1 (List.mem_of_getElem? (i := 71) rfl) rfl
theorem mw_615 : Cond.fieldLink RX7 152 "HiveBylaws$Laws" "strength" "[I" ∈ ws0 := ws0_1 (List.mem_of_getElem? (i := 74) rfl) rfl
theorem mw_616 : Cond.fieldLink RX7 155 "HiveBylaws$Laws" "season" "[I" ∈ ws0 := ws0_1 (List.mem_of_getElem? (i := 77) rfl) rfl
theorem mw_617 : Cond.methodLink RX7 146 yX1_spotAt ∈ ws0 := ws0_3 (List.mem_of_getElem? (i := 59) rfl) rfl
theorem mw_618 : Cond.instanceMethod yX1_spotAt ∈ ws0 := ws0_3 (List.mem_of_getElem? (i := 60) rfl) rfl
theorem mw_619 : Cond.selects RX1 yX1_spotAt yX1_spotAt ∈ ws0 := ws0_3 (List.mem_of_getElem? (i := 61) rfl) rfl
theorem mw_620 : Cond.code yX1_spotAt cX1_spotAt 4 (some .int) ∈ ws0 := ws0_3 (List.mem_of_getElem? (i := 62) rfl) rfl
theorem mw_621 : Cond.methodLink RX7 158 yX6_weightAt ∈ ws0 := ws0_3 (List.mem_of_getElem? (i := 63) rfl) rfl
theorem mw_622 : Cond.methodLink RL 77 yX8_bylaw ∈ ws0 := ws0_4 (List.mem_of_getElem? (i := 141) rfl) rfl
theorem mw_623 : Cond.instanceMethod yX8_bylaw ∈ ws0 := ws0_4 (List.mem_of_getElem? (i := 142) rfl) rfl
theorem mw_624 : Cond.selects RX8 yX8_bylaw yX8_bylaw ∈ ws0 := ws0_4 (List.mem_of_getElem? (i := 143) rfl) rfl
theorem mw_625 : Cond.code yX8_bylaw cX8_bylaw 4 (some .int) ∈ ws0 := ws0_4 (List.mem_of_getElem? (i := 144) rfl) rfl
theorem mw_626 : Cond.methodLink RX8 176 yX8_ranked ∈ ws0 := ws0_4 (List.mem_of_getElem? (i := 145) rfl) rfl
theorem mw_627 : Cond.instanceMethod yX8_ranked ∈ ws0 := ws0_4 (List.mem_of_getElem? (i := 147) rfl) rfl
theorem mw_628 : Cond.selects RX8 yX8_ranked yX8_ranked ∈ ws0 := ws0_p (n := 15) (ws0_q3 (List.mem_of_getElem? (i := 8) rfl))
theorem mw_629 : Cond.code yX8_ranked cX8_ranked 4 (some .int) ∈ ws0 := ws0_4 (List.mem_of_getElem? (i := 148) rfl) rfl
theorem mw_630 : Cond.methodLink RL 78 yX7_petitionOf ∈ ws0 := ws0_3 (List.mem_of_getElem? (i := 64) rfl) rfl
theorem mw_631 : Cond.instanceMethod yX7_petitionOf ∈ ws0 := ws0_3 (List.mem_of_getElem? (i := 65) rfl) rfl
theorem mw_632 : Cond.selects RX7 yX7_petitionOf yX7_petitionOf ∈ ws0 := ws0_3 (List.mem_of_getElem? (i := 66) rfl) rfl
theorem mw_633 : Cond.code yX7_petitionOf cX7_petitionOf 4 (some .int) ∈ ws0 := ws0_3 (List.mem_of_getElem? (i := 67) rfl) rfl
theorem mw_634 : Cond.fieldLink RX7 164 "HiveBylaws$Petitions" "drone" "[I" ∈ ws0 := ws0_1 (List.mem_of_getElem? (i := 96) rfl) rfl
theorem mw_635 : Cond.fieldLink RX7 167 "HiveBylaws$Petitions" "place" "[I" ∈ ws0 := ws0_1 (List.mem_of_getElem? (i := 100) rfl) rfl
theorem mw_636 : Cond.fieldLink RX7 170 "HiveBylaws$Petitions" "doing" "[I" ∈ ws0 := ws0_1 (List.mem_of_getElem? (i := 104) rfl) rfl
theorem mw_637 : Cond.fieldLink RX7 173 "HiveBylaws$Petitions" "kind" "[I" ∈ ws0 := ws0_1 (List.mem_of_getElem? (i := 108) rfl) rfl
theorem mw_638 : Cond.fieldLink RX7 176 "HiveBylaws$Petitions" "support" "[I" ∈ ws0 := ws0_1 (List.mem_of_getElem? (i := 112) rfl) rfl
theorem mw_639 : Cond.fieldLink RX7 179 "HiveBylaws$Petitions" "seconders" "[I" ∈ ws0 := ws0_1 (List.mem_of_getElem? (i := 115) rfl) rfl
theorem mw_640 : Cond.methodLink RX7 161 yX3_has ∈ ws0 := ws0_3 (List.mem_of_getElem? (i := 68) rfl) rfl
theorem mw_641 : Cond.methodLink RL 81 yX8_petitionOf ∈ ws0 := ws0_4 (List.mem_of_getElem? (i := 149) rfl) rfl
theorem mw_642 : Cond.instanceMethod yX8_petitionOf ∈ ws0 := ws0_4 (List.mem_of_getElem? (i := 150) rfl) rfl
theorem mw_643 : Cond.selects RX8 yX8_petitionOf yX8_petitionOf ∈ ws0 := ws0_4 (List.mem_of_getElem? (i := 151) rfl) rfl
theorem mw_644 : Cond.code yX8_petitionOf cX8_petitionOf 4 (some .int) ∈ ws0 := ws0_4 (List.mem_of_getElem? (i := 152) rfl) rfl
theorem mw_645 : Cond.methodLink RL 82 yX7_heard ∈ ws0 := ws0_3 (List.mem_of_getElem? (i := 69) rfl) rfl
theorem mw_646 : Cond.instanceMethod yX7_heard ∈ ws0 := ws0_3 (List.mem_of_getElem? (i := 70) rfl) rfl
theorem mw_647 : Cond.selects RX7 yX7_heard yX7_heard ∈ ws0 := ws0_3 (List.mem_of_getElem? (i := 71) rfl) rfl
theorem mw_648 : Cond.code yX7_heard cX7_heard 2 (some .int) ∈ ws0 := ws0_3 (List.mem_of_getElem? (i := 72) rfl) rfl
theorem mw_649 : Cond.methodLink RX7 182 yX3_atRank ∈ ws0 := ws0_3 (List.mem_of_getElem? (i := 73) rfl) rfl
theorem mw_650 : Cond.methodLink RL 85 yX8_heard ∈ ws0 := ws0_4 (List.mem_of_getElem? (i := 153) rfl) rfl
theorem mw_651 : Cond.instanceMethod yX8_heard ∈ ws0 := ws0_4 (List.mem_of_getElem? (i := 154) rfl) rfl
theorem mw_652 : Cond.selects RX8 yX8_heard yX8_heard ∈ ws0 := ws0_4 (List.mem_of_getElem? (i := 155) rfl) rfl
theorem mw_653 : Cond.code yX8_heard cX8_heard 2 (some .int) ∈ ws0 := ws0_4 (List.mem_of_getElem? (i := 156) rfl) rfl
theorem mw_654 : Cond.methodLink RL 86 yX7_rule ∈ ws0 := ws0_3 (List.mem_of_getElem? (i := 74) rfl) rfl
theorem mw_655 : Cond.instanceMethod yX7_rule ∈ ws0 := ws0_3 (List.mem_of_getElem? (i := 75) rfl) rfl
theorem mw_656 : Cond.selects RX7 yX7_rule yX7_rule ∈ ws0 := ws0_3 (List.mem_of_getElem? (i := 76) rfl) rfl
theorem mw_657 : Cond.code yX7_rule cX7_rule 5 (some .int) ∈ ws0 := ws0_3 (List.mem_of_getElem? (i := 77) rfl) rfl
theorem mw_658 : Cond.methodLink RX7 185 yX7_isComb ∈ ws0 := ws0_3 (List.mem_of_getElem? (i := 78) rfl) rfl
theorem mw_659 : Cond.methodLink RX7 188 yX7_isDoing ∈ ws0 := ws0_3 (List.mem_of_getElem? (i := 79) rfl) rfl
theorem mw_660 : Cond.methodLink RX7 191 yX1_rulingPlace ∈ ws0 := ws0_3 (List.mem_of_getElem? (i := 80) rfl) rfl
theorem mw_661 : Cond.instanceMethod yX1_rulingPlace ∈ ws0 := ws0_3 (List.mem_of_getElem? (i := 81) rfl) rfl
theorem mw_662 : Cond.selects RX1 yX1_rulingPlace yX1_rulingPlace ∈ ws0 := ws0_3 (List.mem_of_getElem? (i := 82) rfl) rfl
theorem mw_663 : Cond.code yX1_rulingPlace cX1_rulingPlace 5 (some .int) ∈ ws0 := ws0_3 (List.mem_of_getElem? (i := 83) rfl) rfl
theorem mw_664 : Cond.methodLink RX1 31 yX1_strengthOf ∈ ws0 := ws0_3 (List.mem_of_getElem? (i := 84) rfl) rfl
theorem mw_665 : Cond.methodLink RX7 194 yX1_isForbidden ∈ ws0 := ws0_3 (List.mem_of_getElem? (i := 85) rfl) rfl
theorem mw_666 : Cond.instanceMethod yX1_isForbidden ∈ ws0 := ws0_3 (List.mem_of_getElem? (i := 86) rfl) rfl
theorem mw_667 : Cond.selects RX1 yX1_isForbidden yX1_isForbidden ∈ ws0 := ws0_3 (List.mem_of_getElem? (i := 87) rfl) rfl
theorem mw_668 : Cond.code yX1_isForbidden cX1_isForbidden 4 (some .boolean) ∈ ws0 := ws0_3 (List.mem_of_getElem? (i := 88) rfl) rfl
theorem mw_669 : Cond.methodLink RX1 35 yX1_rulingPlace ∈ ws0 := ws0_3 (List.mem_of_getElem? (i := 89) rfl) rfl
theorem mw_670 : Cond.methodLink RX1 38 yX1_stanceOf ∈ ws0 := ws0_3 (List.mem_of_getElem? (i := 90) rfl) rfl
theorem mw_671 : Cond.methodLink RX7 198 yX1_strengthOf ∈ ws0 := ws0_3 (List.mem_of_getElem? (i := 91) rfl) rfl
theorem mw_672 : Cond.methodLink RL 90 yX8_rule ∈ ws0 := ws0_4 (List.mem_of_getElem? (i := 157) rfl) rfl
theorem mw_673 : Cond.instanceMethod yX8_rule ∈ ws0 := ws0_4 (List.mem_of_getElem? (i := 158) rfl) rfl
theorem mw_674 : Cond.selects RX8 yX8_rule yX8_rule ∈ ws0 := ws0_4 (List.mem_of_getElem? (i := 159) rfl) rfl
theorem mw_675 : Cond.code yX8_rule cX8_rule 5 (some .int) ∈ ws0 := ws0_4 (List.mem_of_getElem? (i := 160) rfl) rfl
theorem mw_676 : Cond.methodLink RX8 179 yX8_ruling ∈ ws0 := ws0_4 (List.mem_of_getElem? (i := 161) rfl) rfl
theorem mw_677 : Cond.instanceMethod yX8_ruling ∈ ws0 := ws0_4 (List.mem_of_getElem? (i := 163) rfl) rfl
theorem mw_678 : Cond.selects RX8 yX8_ruling yX8_ruling ∈ ws0 := ws0_p (n := 15) (ws0_q3 (List.mem_of_getElem? (i := 9) rfl))
theorem mw_679 : Cond.code yX8_ruling cX8_ruling 5 (some .int) ∈ ws0 := ws0_4 (List.mem_of_getElem? (i := 164) rfl) rfl
theorem mw_680 : Cond.methodLink RX8 182 yX8_isAllowed ∈ ws0 := ws0_4 (List.mem_of_getElem? (i := 165) rfl) rfl
theorem mw_681 : Cond.instanceMethod yX8_isAllowed ∈ ws0 := ws0_4 (List.mem_of_getElem? (i := 167) rfl) rfl
theorem mw_682 : Cond.selects RX8 yX8_isAllowed yX8_isAllowed ∈ ws0 := ws0_p (n := 15) (ws0_q3 (List.mem_of_getElem? (i := 10) rfl))
theorem mw_683 : Cond.code yX8_isAllowed cX8_isAllowed 4 (some .boolean) ∈ ws0 := ws0_4 (List.mem_of_getElem? (i := 168) rfl) rfl
theorem mw_684 : Cond.methodLink RL 91 yX7_reason ∈ ws0 := ws0_3 (List.mem_of_getElem? (i := 92) rfl) rfl
theorem mw_685 : Cond.instanceMethod yX7_reason ∈ ws0 := ws0_3 (List.mem_of_getElem? (i := 93) rfl) rfl
theorem mw_686 : Cond.selects RX7 yX7_reason yX7_reason ∈ ws0 := ws0_3 (List.mem_of_getElem? (i := 94) rfl) rfl
theorem mw_687 : Cond.code yX7_reason cX7_reason 2 (some .int) ∈ ws0 := ws0_3 (List.mem_of_getElem? (i := 95) rfl) rfl
theorem mw_688 : Cond.fieldLink RX7 204 "HiveBylaws$State" "verdict" "[I" ∈ ws0 := ws0_1 (List.mem_of_getElem? (i := 172) rfl) rfl
theorem mw_689 : Cond.methodLink RX7 201 yX5_hearPetitions ∈ ws0 := ws0_3 (List.mem_of_getElem? (i := 96) rfl) rfl
theorem mw_690 : Cond.methodLink RL 94 yX8_reason ∈ ws0 := ws0_4 (List.mem_of_getElem? (i := 169) rfl) rfl
theorem mw_691 : Cond.instanceMethod yX8_reason ∈ ws0 := ws0_4 (List.mem_of_getElem? (i := 170) rfl) rfl
theorem mw_692 : Cond.selects RX8 yX8_reason yX8_reason ∈ ws0 := ws0_4 (List.mem_of_getElem? (i := 171) rfl) rfl
theorem mw_693 : Cond.code yX8_reason cX8_reason 2 (some .int) ∈ ws0 := ws0_4 (List.mem_of_getElem? (i := 172) rfl) rfl
theorem mw_694 : Cond.methodLink RX8 185 yX8_tries ∈ ws0 := ws0_4 (List.mem_of_getElem? (i := 173) rfl) rfl
theorem mw_695 : Cond.instanceMethod yX8_tries ∈ ws0 := ws0_4 (List.mem_of_getElem? (i := 175) rfl) rfl
theorem mw_696 : Cond.selects RX8 yX8_tries yX8_tries ∈ ws0 := ws0_p (n := 15) (ws0_q3 (List.mem_of_getElem? (i := 11) rfl))
theorem mw_697 : Cond.code yX8_tries cX8_tries 2 none ∈ ws0 := ws0_4 (List.mem_of_getElem? (i := 176) rfl) rfl
theorem mw_698 : Cond.methodLink RL 95 yX7_wouldPass ∈ ws0 := ws0_3 (List.mem_of_getElem? (i := 97) rfl) rfl
theorem mw_699 : Cond.instanceMethod yX7_wouldPass ∈ ws0 := ws0_3 (List.mem_of_getElem? (i := 98) rfl) rfl
theorem mw_700 : Cond.selects RX7 yX7_wouldPass yX7_wouldPass ∈ ws0 := ws0_3 (List.mem_of_getElem? (i := 99) rfl) rfl
theorem mw_701 : Cond.code yX7_wouldPass cX7_wouldPass 3 (some .int) ∈ ws0 := ws0_3 (List.mem_of_getElem? (i := 100) rfl) rfl
theorem mw_702 : Cond.fieldLink RX7 207 "HiveBylaws$Petitions" "size" "I" ∈ ws0 := ws0_1 (List.mem_of_getElem? (i := 93) rfl) rfl
theorem mw_703 : Cond.methodLink RL 98 yX8_wouldPass ∈ ws0 := ws0_4 (List.mem_of_getElem? (i := 177) rfl) rfl
theorem mw_704 : Cond.instanceMethod yX8_wouldPass ∈ ws0 := ws0_4 (List.mem_of_getElem? (i := 178) rfl) rfl
theorem mw_705 : Cond.selects RX8 yX8_wouldPass yX8_wouldPass ∈ ws0 := ws0_4 (List.mem_of_getElem? (i := 179) rfl) rfl
theorem mw_706 : Cond.code yX8_wouldPass cX8_wouldPass 3 (some .int) ∈ ws0 := ws0_4 (List.mem_of_getElem? (i := 180) rfl) rfl
theorem mw_707 : Cond.methodLink RL 99 yX7_lacks ∈ ws0 := ws0_3 (List.mem_of_getElem? (i := 101) rfl) rfl
theorem mw_708 : Cond.instanceMethod yX7_lacks ∈ ws0 := ws0_3 (List.mem_of_getElem? (i := 102) rfl) rfl
theorem mw_709 : Cond.selects RX7 yX7_lacks yX7_lacks ∈ ws0 := ws0_3 (List.mem_of_getElem? (i := 103) rfl) rfl
theorem mw_710 : Cond.code yX7_lacks cX7_lacks 4 (some .int) ∈ ws0 := ws0_3 (List.mem_of_getElem? (i := 104) rfl) rfl
theorem mw_711 : Cond.methodLink RX7 209 yX5_reasonToRefuse ∈ ws0 := ws0_3 (List.mem_of_getElem? (i := 105) rfl) rfl
theorem mw_712 : Cond.methodLink RL 102 yX8_lacks ∈ ws0 := ws0_4 (List.mem_of_getElem? (i := 181) rfl) rfl
theorem mw_713 : Cond.instanceMethod yX8_lacks ∈ ws0 := ws0_4 (List.mem_of_getElem? (i := 182) rfl) rfl
theorem mw_714 : Cond.selects RX8 yX8_lacks yX8_lacks ∈ ws0 := ws0_4 (List.mem_of_getElem? (i := 183) rfl) rfl
theorem mw_715 : Cond.code yX8_lacks cX8_lacks 4 (some .int) ∈ ws0 := ws0_4 (List.mem_of_getElem? (i := 184) rfl) rfl
theorem mw_716 : Cond.methodLink RL 103 yX7_free ∈ ws0 := ws0_3 (List.mem_of_getElem? (i := 106) rfl) rfl
theorem mw_717 : Cond.instanceMethod yX7_free ∈ ws0 := ws0_3 (List.mem_of_getElem? (i := 107) rfl) rfl
theorem mw_718 : Cond.selects RX7 yX7_free yX7_free ∈ ws0 := ws0_3 (List.mem_of_getElem? (i := 108) rfl) rfl
theorem mw_719 : Cond.code yX7_free cX7_free 2 (some .int) ∈ ws0 := ws0_3 (List.mem_of_getElem? (i := 109) rfl) rfl
theorem mw_720 : Cond.fieldLink RX7 212 "HiveBylaws$Swarm" "size" "I" ∈ ws0 := ws0_1 (List.mem_of_getElem? (i := 33) rfl) rfl
theorem mw_721 : Cond.methodLink RX7 213 yX3_makers ∈ ws0 := ws0_3 (List.mem_of_getElem? (i := 110) rfl) rfl
theorem mw_722 : Cond.instanceMethod yX3_makers ∈ ws0 := ws0_3 (List.mem_of_getElem? (i := 111) rfl) rfl
theorem mw_723 : Cond.selects RX3 yX3_makers yX3_makers ∈ ws0 := ws0_3 (List.mem_of_getElem? (i := 112) rfl) rfl
theorem mw_724 : Cond.code yX3_makers cX3_makers 3 (some .int) ∈ ws0 := ws0_3 (List.mem_of_getElem? (i := 113) rfl) rfl
theorem mw_725 : Cond.methodLink RL 106 yX8_free ∈ ws0 := ws0_4 (List.mem_of_getElem? (i := 185) rfl) rfl
theorem mw_726 : Cond.instanceMethod yX8_free ∈ ws0 := ws0_4 (List.mem_of_getElem? (i := 186) rfl) rfl
theorem mw_727 : Cond.selects RX8 yX8_free yX8_free ∈ ws0 := ws0_4 (List.mem_of_getElem? (i := 187) rfl) rfl
theorem mw_728 : Cond.code yX8_free cX8_free 3 (some .int) ∈ ws0 := ws0_4 (List.mem_of_getElem? (i := 188) rfl) rfl
theorem mw_729 : Cond.methodLink RL 107 yX7_oldest ∈ ws0 := ws0_3 (List.mem_of_getElem? (i := 114) rfl) rfl
theorem mw_730 : Cond.instanceMethod yX7_oldest ∈ ws0 := ws0_3 (List.mem_of_getElem? (i := 115) rfl) rfl
theorem mw_731 : Cond.selects RX7 yX7_oldest yX7_oldest ∈ ws0 := ws0_3 (List.mem_of_getElem? (i := 116) rfl) rfl
theorem mw_732 : Cond.code yX7_oldest cX7_oldest 4 (some .int) ∈ ws0 := ws0_3 (List.mem_of_getElem? (i := 117) rfl) rfl
theorem mw_733 : Cond.methodLink RX7 216 yX1_oldestSpot ∈ ws0 := ws0_3 (List.mem_of_getElem? (i := 118) rfl) rfl
theorem mw_734 : Cond.instanceMethod yX1_oldestSpot ∈ ws0 := ws0_3 (List.mem_of_getElem? (i := 119) rfl) rfl
theorem mw_735 : Cond.selects RX1 yX1_oldestSpot yX1_oldestSpot ∈ ws0 := ws0_3 (List.mem_of_getElem? (i := 120) rfl) rfl
theorem mw_736 : Cond.code yX1_oldestSpot cX1_oldestSpot 5 (some .int) ∈ ws0 := ws0_3 (List.mem_of_getElem? (i := 121) rfl) rfl
theorem mw_737 : Cond.methodLink RX7 219 yX1_rankOf ∈ ws0 := ws0_3 (List.mem_of_getElem? (i := 122) rfl) rfl
theorem mw_738 : Cond.methodLink RL 110 yX8_oldest ∈ ws0 := ws0_4 (List.mem_of_getElem? (i := 189) rfl) rfl
theorem mw_739 : Cond.instanceMethod yX8_oldest ∈ ws0 := ws0_4 (List.mem_of_getElem? (i := 190) rfl) rfl
theorem mw_740 : Cond.selects RX8 yX8_oldest yX8_oldest ∈ ws0 := ws0_4 (List.mem_of_getElem? (i := 191) rfl) rfl
theorem mw_741 : Cond.code yX8_oldest cX8_oldest 4 (some .int) ∈ ws0 := ws0_4 (List.mem_of_getElem? (i := 192) rfl) rfl
theorem mw_742 : Cond.methodLink RX8 188 yX8_oldestAt ∈ ws0 := ws0_4 (List.mem_of_getElem? (i := 193) rfl) rfl
theorem mw_743 : Cond.instanceMethod yX8_oldestAt ∈ ws0 := ws0_4 (List.mem_of_getElem? (i := 195) rfl) rfl
theorem mw_744 : Cond.selects RX8 yX8_oldestAt yX8_oldestAt ∈ ws0 := ws0_p (n := 15) (ws0_q3 (List.mem_of_getElem? (i := 12) rfl))
theorem mw_745 : Cond.code yX8_oldestAt cX8_oldestAt 5 (some .int) ∈ ws0 := ws0_4 (List.mem_of_getElem? (i := 196) rfl) rfl
theorem mw_746 : Cond.methodLink RX8 191 yX8_rankOf ∈ ws0 := ws0_4 (List.mem_of_getElem? (i := 197) rfl) rfl
theorem mw_747 : Cond.instanceMethod yX8_rankOf ∈ ws0 := ws0_4 (List.mem_of_getElem? (i := 199) rfl) rfl
theorem mw_748 : Cond.selects RX8 yX8_rankOf yX8_rankOf ∈ ws0 := ws0_p (n := 15) (ws0_q3 (List.mem_of_getElem? (i := 13) rfl))
theorem mw_749 : Cond.code yX8_rankOf cX8_rankOf 4 (some .int) ∈ ws0 := ws0_4 (List.mem_of_getElem? (i := 200) rfl) rfl
theorem mw_750 : Cond.methodLink RL 111 yX7_count ∈ ws0 := ws0_3 (List.mem_of_getElem? (i := 123) rfl) rfl
theorem mw_751 : Cond.instanceMethod yX7_count ∈ ws0 := ws0_3 (List.mem_of_getElem? (i := 124) rfl) rfl
theorem mw_752 : Cond.selects RX7 yX7_count yX7_count ∈ ws0 := ws0_3 (List.mem_of_getElem? (i := 125) rfl) rfl
theorem mw_753 : Cond.code yX7_count cX7_count 2 (some .int) ∈ ws0 := ws0_3 (List.mem_of_getElem? (i := 126) rfl) rfl
theorem mw_754 : Cond.fieldLink RX7 222 "HiveBylaws$State" "day" "I" ∈ ws0 := ws0_1 (List.mem_of_getElem? (i := 164) rfl) rfl
theorem mw_755 : Cond.fieldLink RX7 225 "HiveBylaws$State" "season" "I" ∈ ws0 := ws0_1 (List.mem_of_getElem? (i := 166) rfl) rfl
theorem mw_756 : Cond.fieldLink RX7 227 "HiveBylaws$State" "daysOfSeason" "I" ∈ ws0 := ws0_1 (List.mem_of_getElem? (i := 168) rfl) rfl
theorem mw_757 : Cond.fieldLink RX7 237 "HiveBylaws$State" "repeals" "I" ∈ ws0 := ws0_1 (List.mem_of_getElem? (i := 170) rfl) rfl
theorem mw_758 : Cond.fieldLink RX7 243 "HiveBylaws$State" "setting" "[I" ∈ ws0 := ws0_1 (List.mem_of_getElem? (i := 162) rfl) rfl
theorem mw_759 : Cond.fieldLink RX7 246 "HiveBylaws$History" "size" "I" ∈ ws0 := ws0_1 (List.mem_of_getElem? (i := 206) rfl) rfl
theorem mw_760 : Cond.fieldLink RX7 247 "HiveBylaws$PetitionText" "length" "I" ∈ ws0 := ws0_1 (List.mem_of_getElem? (i := 222) rfl) rfl
theorem mw_761 : Cond.methodLink RX7 230 yX1_forbidding ∈ ws0 := ws0_3 (List.mem_of_getElem? (i := 127) rfl) rfl
theorem mw_762 : Cond.instanceMethod yX1_forbidding ∈ ws0 := ws0_3 (List.mem_of_getElem? (i := 128) rfl) rfl
theorem mw_763 : Cond.selects RX1 yX1_forbidding yX1_forbidding ∈ ws0 := ws0_3 (List.mem_of_getElem? (i := 129) rfl) rfl
theorem mw_764 : Cond.code yX1_forbidding cX1_forbidding 3 (some .int) ∈ ws0 := ws0_3 (List.mem_of_getElem? (i := 130) rfl) rfl
theorem mw_765 : Cond.methodLink RX7 233 yX7_sum ∈ ws0 := ws0_3 (List.mem_of_getElem? (i := 131) rfl) rfl
theorem mw_766 : Cond.static yX7_sum ∈ ws0 := ws0_3 (List.mem_of_getElem? (i := 132) rfl) rfl
theorem mw_767 : Cond.code yX7_sum cX7_sum 6 (some .int) ∈ ws0 := ws0_3 (List.mem_of_getElem? (i := 133) rfl) rfl
theorem mw_768 : Cond.methodLink RX7 240 yX1_forbiddenDoings ∈ ws0 := ws0_3 (List.mem_of_getElem? (i := 134) rfl) rfl
theorem mw_769 : Cond.instanceMethod yX1_forbiddenDoings ∈ ws0 := ws0_3 (List.mem_of_getElem? (i := 135) rfl) rfl
theorem mw_770 : Cond.selects RX1 yX1_forbiddenDoings yX1_forbiddenDoings ∈ ws0 := ws0_3 (List.mem_of_getElem? (i := 136) rfl) rfl
theorem mw_771 : Cond.code yX1_forbiddenDoings cX1_forbiddenDoings 4 (some .int) ∈ ws0 := ws0_3 (List.mem_of_getElem? (i := 137) rfl) rfl
theorem mw_772 : Cond.methodLink RX1 41 yX1_isForbidden ∈ ws0 := ws0_3 (List.mem_of_getElem? (i := 138) rfl) rfl
theorem mw_773 : Cond.methodLink RL 114 yX8_count ∈ ws0 := ws0_4 (List.mem_of_getElem? (i := 201) rfl) rfl
theorem mw_774 : Cond.instanceMethod yX8_count ∈ ws0 := ws0_4 (List.mem_of_getElem? (i := 202) rfl) rfl
theorem mw_775 : Cond.selects RX8 yX8_count yX8_count ∈ ws0 := ws0_4 (List.mem_of_getElem? (i := 203) rfl) rfl
theorem mw_776 : Cond.code yX8_count cX8_count 2 (some .int) ∈ ws0 := ws0_4 (List.mem_of_getElem? (i := 204) rfl) rfl
theorem mw_777 : Cond.methodLink RX8 194 yX8_forbiddenAtCombs ∈ ws0 := ws0_4 (List.mem_of_getElem? (i := 205) rfl) rfl
theorem mw_778 : Cond.instanceMethod yX8_forbiddenAtCombs ∈ ws0 := ws0_4 (List.mem_of_getElem? (i := 207) rfl) rfl
theorem mw_779 : Cond.selects RX8 yX8_forbiddenAtCombs yX8_forbiddenAtCombs ∈ ws0 := ws0_p (n := 15) (ws0_q3 (List.mem_of_getElem? (i := 14) rfl))
theorem mw_780 : Cond.code yX8_forbiddenAtCombs cX8_forbiddenAtCombs 3 (some .int) ∈ ws0 := ws0_4 (List.mem_of_getElem? (i := 208) rfl) rfl
theorem in0_X0 : ∀ w ∈ wsX00, w ∈ ws0 := by
  intro w hw
  obtain ⟨k, hk, rfl⟩ := List.mem_map.mp hw
  have hk := List.mem_range.mp hk
  match k, hk with
  | 0, _ => exact ws0_1 (List.mem_of_getElem? (i := 207) rfl) rfl
  | 1, _ => exact ws0_1 (List.mem_of_getElem? (i := 209) rfl) rfl
  | 2, _ => exact ws0_1 (List.mem_of_getElem? (i := 211) rfl) rfl
  | k + 3, hk => omega
theorem in0_X1 : ∀ w ∈ wsX10, w ∈ ws0 := by
  intro w hw
  obtain ⟨k, hk, rfl⟩ := List.mem_map.mp hw
  have hk := List.mem_range.mp hk
  match k, hk with
  | 0, _ => exact ws0_1 (List.mem_of_getElem? (i := 78) rfl) rfl
  | 1, _ => exact ws0_1 (List.mem_of_getElem? (i := 80) rfl) rfl
  | 2, _ => exact ws0_1 (List.mem_of_getElem? (i := 82) rfl) rfl
  | k + 3, hk => omega
theorem in0_X2 : ∀ w ∈ wsX20, w ∈ ws0 := by
  intro w hw
  obtain ⟨k, hk, rfl⟩ := List.mem_map.mp hw
  have hk := List.mem_range.mp hk
  match k, hk with
  | 0, _ => exact ws0_1 (List.mem_of_getElem? (i := 236) rfl) rfl
  | 1, _ => exact ws0_1 (List.mem_of_getElem? (i := 238) rfl) rfl
  | 2, _ => exact ws0_2 (List.mem_of_getElem? (i := 0) rfl) rfl
  | 3, _ => exact ws0_2 (List.mem_of_getElem? (i := 2) rfl) rfl
  | 4, _ => exact ws0_2 (List.mem_of_getElem? (i := 4) rfl) rfl
  | 5, _ => exact ws0_2 (List.mem_of_getElem? (i := 6) rfl) rfl
  | 6, _ => exact ws0_2 (List.mem_of_getElem? (i := 8) rfl) rfl
  | 7, _ => exact ws0_2 (List.mem_of_getElem? (i := 10) rfl) rfl
  | 8, _ => exact ws0_2 (List.mem_of_getElem? (i := 12) rfl) rfl
  | k + 9, hk => omega
theorem in0_X3 : ∀ w ∈ wsX30, w ∈ ws0 := by
  intro w hw
  obtain ⟨k, hk, rfl⟩ := List.mem_map.mp hw
  have hk := List.mem_range.mp hk
  match k, hk with
  | 0, _ => exact ws0_1 (List.mem_of_getElem? (i := 116) rfl) rfl
  | 1, _ => exact ws0_1 (List.mem_of_getElem? (i := 118) rfl) rfl
  | 2, _ => exact ws0_1 (List.mem_of_getElem? (i := 120) rfl) rfl
  | 3, _ => exact ws0_1 (List.mem_of_getElem? (i := 122) rfl) rfl
  | 4, _ => exact ws0_1 (List.mem_of_getElem? (i := 124) rfl) rfl
  | 5, _ => exact ws0_1 (List.mem_of_getElem? (i := 126) rfl) rfl
  | 6, _ => exact ws0_1 (List.mem_of_getElem? (i := 128) rfl) rfl
  | k + 7, hk => omega
theorem in0_X4 : ∀ w ∈ wsX40, w ∈ ws0 := by
  intro w hw
  obtain ⟨k, hk, rfl⟩ := List.mem_map.mp hw
  have hk := List.mem_range.mp hk
  match k, hk with
  | 0, _ => exact ws0_1 (List.mem_of_getElem? (i := 143) rfl) rfl
  | 1, _ => exact ws0_1 (List.mem_of_getElem? (i := 145) rfl) rfl
  | 2, _ => exact ws0_1 (List.mem_of_getElem? (i := 147) rfl) rfl
  | 3, _ => exact ws0_1 (List.mem_of_getElem? (i := 149) rfl) rfl
  | 4, _ => exact ws0_1 (List.mem_of_getElem? (i := 151) rfl) rfl
  | k + 5, hk => omega
theorem in0_X5 : ∀ w ∈ wsX50, w ∈ ws0 := by
  intro w hw
  obtain ⟨k, hk, rfl⟩ := List.mem_map.mp hw
  have hk := List.mem_range.mp hk
  match k, hk with
  | 0, _ => exact ws0_1 (List.mem_of_getElem? (i := 173) rfl) rfl
  | 1, _ => exact ws0_1 (List.mem_of_getElem? (i := 175) rfl) rfl
  | 2, _ => exact ws0_1 (List.mem_of_getElem? (i := 177) rfl) rfl
  | 3, _ => exact ws0_1 (List.mem_of_getElem? (i := 179) rfl) rfl
  | 4, _ => exact ws0_1 (List.mem_of_getElem? (i := 181) rfl) rfl
  | 5, _ => exact ws0_1 (List.mem_of_getElem? (i := 183) rfl) rfl
  | 6, _ => exact ws0_1 (List.mem_of_getElem? (i := 185) rfl) rfl
  | 7, _ => exact ws0_1 (List.mem_of_getElem? (i := 187) rfl) rfl
  | 8, _ => exact ws0_1 (List.mem_of_getElem? (i := 189) rfl) rfl
  | 9, _ => exact ws0_1 (List.mem_of_getElem? (i := 191) rfl) rfl
  | k + 10, hk => omega
theorem in0_X6 : ∀ w ∈ wsX60, w ∈ ws0 := by
  intro w hw
  obtain ⟨k, hk, rfl⟩ := List.mem_map.mp hw
  have hk := List.mem_range.mp hk
  match k, hk with
  | 0, _ => exact ws0_1 (List.mem_of_getElem? (i := 49) rfl) rfl
  | 1, _ => exact ws0_1 (List.mem_of_getElem? (i := 51) rfl) rfl
  | 2, _ => exact ws0_1 (List.mem_of_getElem? (i := 53) rfl) rfl
  | 3, _ => exact ws0_1 (List.mem_of_getElem? (i := 55) rfl) rfl
  | 4, _ => exact ws0_1 (List.mem_of_getElem? (i := 57) rfl) rfl
  | 5, _ => exact ws0_1 (List.mem_of_getElem? (i := 59) rfl) rfl
  | k + 6, hk => omega
theorem in0_X7 : ∀ w ∈ wsX70, w ∈ ws0 := by
  intro w hw
  obtain ⟨k, hk, rfl⟩ := List.mem_map.mp hw
  have hk := List.mem_range.mp hk
  match k, hk with
  | 0, _ => exact ws0_2 (List.mem_of_getElem? (i := 25) rfl) rfl
  | 1, _ => exact ws0_2 (List.mem_of_getElem? (i := 27) rfl) rfl
  | 2, _ => exact ws0_2 (List.mem_of_getElem? (i := 29) rfl) rfl
  | 3, _ => exact ws0_2 (List.mem_of_getElem? (i := 31) rfl) rfl
  | 4, _ => exact ws0_2 (List.mem_of_getElem? (i := 33) rfl) rfl
  | 5, _ => exact ws0_2 (List.mem_of_getElem? (i := 35) rfl) rfl
  | 6, _ => exact ws0_2 (List.mem_of_getElem? (i := 37) rfl) rfl
  | 7, _ => exact ws0_2 (List.mem_of_getElem? (i := 39) rfl) rfl
  | 8, _ => exact ws0_2 (List.mem_of_getElem? (i := 41) rfl) rfl
  | k + 9, hk => omega
theorem in0_X8 : ∀ w ∈ wsX80, w ∈ ws0 := by
  intro w hw
  obtain ⟨k, hk, rfl⟩ := List.mem_map.mp hw
  have hk := List.mem_range.mp hk
  match k, hk with
  | 0, _ => exact ws0_3 (List.mem_of_getElem? (i := 160) rfl) rfl
  | 1, _ => exact ws0_3 (List.mem_of_getElem? (i := 162) rfl) rfl
  | 2, _ => exact ws0_3 (List.mem_of_getElem? (i := 164) rfl) rfl
  | 3, _ => exact ws0_3 (List.mem_of_getElem? (i := 166) rfl) rfl
  | 4, _ => exact ws0_3 (List.mem_of_getElem? (i := 168) rfl) rfl
  | 5, _ => exact ws0_3 (List.mem_of_getElem? (i := 170) rfl) rfl
  | 6, _ => exact ws0_3 (List.mem_of_getElem? (i := 172) rfl) rfl
  | 7, _ => exact ws0_3 (List.mem_of_getElem? (i := 174) rfl) rfl
  | 8, _ => exact ws0_3 (List.mem_of_getElem? (i := 176) rfl) rfl
  | 9, _ => exact ws0_3 (List.mem_of_getElem? (i := 178) rfl) rfl
  | 10, _ => exact ws0_3 (List.mem_of_getElem? (i := 180) rfl) rfl
  | 11, _ => exact ws0_3 (List.mem_of_getElem? (i := 182) rfl) rfl
  | 12, _ => exact ws0_3 (List.mem_of_getElem? (i := 184) rfl) rfl
  | 13, _ => exact ws0_3 (List.mem_of_getElem? (i := 186) rfl) rfl
  | 14, _ => exact ws0_3 (List.mem_of_getElem? (i := 188) rfl) rfl
  | k + 15, hk => omega
