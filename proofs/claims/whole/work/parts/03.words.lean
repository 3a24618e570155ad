/-! the good words of the tables, by their places -/
def wU : List Cond := lw_tbl.filter goodWord
theorem wU_good : GoodIn wU wU := fun w h => ⟨h, good_of_word (List.mem_filter.mp h).2⟩
theorem wU_in : ∀ w ∈ wU, w ∈ lw_tbl := fun w h => (List.mem_filter.mp h).1
theorem tb_1 : ∀ w ∈ tables_1_1, w ∈ lw_tbl := fun _ h => List.mem_append_right _ (List.mem_append_left _ h)
theorem tb_2 : ∀ w ∈ tables_1_2, w ∈ lw_tbl := fun _ h => List.mem_append_right _ (List.mem_append_right _ (List.mem_append_left _ h))
theorem tb_3 : ∀ w ∈ tables_1_3, w ∈ lw_tbl := fun _ h => List.mem_append_right _ (List.mem_append_right _ (List.mem_append_right _ (List.mem_append_left _ h)))
theorem tb_4 : ∀ w ∈ tables_1_4, w ∈ lw_tbl := fun _ h => List.mem_append_right _ (List.mem_append_right _ (List.mem_append_right _ (List.mem_append_right _ (List.mem_append_left _ h))))
theorem tb_5 : ∀ w ∈ tables_1_5, w ∈ lw_tbl := fun _ h => List.mem_append_right _ (List.mem_append_right _ (List.mem_append_right _ (List.mem_append_right _ (List.mem_append_right _ h))))
theorem pb_1 : ∀ q ∈ lw_privs_1, Cond.selects q.1.cls q.1 q.1 ∈ lw_tbl := fun q h => List.mem_append_left _ (List.mem_map.mpr ⟨q, List.mem_append_left _ h, rfl⟩)
theorem pb_2 : ∀ q ∈ lw_privs_2, Cond.selects q.1.cls q.1 q.1 ∈ lw_tbl := fun q h => List.mem_append_left _ (List.mem_map.mpr ⟨q, List.mem_append_right _ (List.mem_append_left _ h), rfl⟩)
theorem pb_3 : ∀ q ∈ lw_privs_3, Cond.selects q.1.cls q.1 q.1 ∈ lw_tbl := fun q h => List.mem_append_left _ (List.mem_map.mpr ⟨q, List.mem_append_right _ (List.mem_append_right _ (List.mem_append_left _ h)), rfl⟩)
theorem pb_4 : ∀ q ∈ lw_privs_4, Cond.selects q.1.cls q.1 q.1 ∈ lw_tbl := fun q h => List.mem_append_left _ (List.mem_map.mpr ⟨q, List.mem_append_right _ (List.mem_append_right _ (List.mem_append_right _ h)), rfl⟩)
theorem q_0 : Cond.classLink RL 7 RX8 ∈ wU := List.mem_filter.mpr ⟨tb_1 _ (List.mem_of_getElem? (i := 14) rfl), rfl⟩
theorem q_1 : Cond.instantiable RX8 10 ∈ wU := List.mem_filter.mpr ⟨tb_1 _ (List.mem_of_getElem? (i := 15) rfl), rfl⟩
theorem q_2 : Cond.initialized RX8 ∈ wU := List.mem_filter.mpr ⟨tb_1 _ (List.mem_of_getElem? (i := 1) rfl), rfl⟩
theorem q_3 : Cond.classLink RL 10 RX9 ∈ wU := List.mem_filter.mpr ⟨tb_3 _ (List.mem_of_getElem? (i := 214) rfl), rfl⟩
theorem q_4 : Cond.instantiable RX9 39 ∈ wU := List.mem_filter.mpr ⟨tb_3 _ (List.mem_of_getElem? (i := 215) rfl), rfl⟩
theorem q_5 : Cond.initialized RX9 ∈ wU := List.mem_filter.mpr ⟨tb_1 _ (List.mem_of_getElem? (i := 9) rfl), rfl⟩
theorem q_6 : Cond.methodLink RL 9 yX8_init ∈ wU := List.mem_filter.mpr ⟨tb_1 _ (List.mem_of_getElem? (i := 16) rfl), rfl⟩
theorem q_7 : Cond.instanceMethod yX8_init ∈ wU := List.mem_filter.mpr ⟨tb_1 _ (List.mem_of_getElem? (i := 17) rfl), rfl⟩
theorem q_8 : Cond.code yX8_init cX8_init 1 none ∈ wU := List.mem_filter.mpr ⟨tb_1 _ (List.mem_of_getElem? (i := 18) rfl), rfl⟩
theorem q_9 : Cond.methodLink RX8 3 objectInit ∈ wU := List.mem_filter.mpr ⟨tb_1 _ (List.mem_of_getElem? (i := 19) rfl), rfl⟩
theorem q_10 : Cond.instanceMethod objectInit ∈ wU := List.mem_filter.mpr ⟨tb_1 _ (List.mem_of_getElem? (i := 20) rfl), rfl⟩
theorem q_11 : Cond.code objectInit ⟨#[0xb1]⟩ 1 none ∈ wU := List.mem_filter.mpr ⟨tb_1 _ (List.mem_of_getElem? (i := 21) rfl), rfl⟩
theorem q_12 : Cond.classLink RX8 9 RX4 ∈ wU := List.mem_filter.mpr ⟨tb_1 _ (List.mem_of_getElem? (i := 22) rfl), rfl⟩
theorem q_13 : Cond.instantiable RX4 8 ∈ wU := List.mem_filter.mpr ⟨tb_1 _ (List.mem_of_getElem? (i := 23) rfl), rfl⟩
theorem q_14 : Cond.initialized RX4 ∈ wU := List.mem_filter.mpr ⟨tb_1 _ (List.mem_of_getElem? (i := 2) rfl), rfl⟩
theorem q_15 : Cond.fieldLink RX8 12 "HiddenEdges" "mesh" "LHiddenEdges$Mesh;" ∈ wU := List.mem_filter.mpr ⟨tb_2 _ (List.mem_of_getElem? (i := 20) rfl), rfl⟩
theorem q_16 : Cond.classLink RX8 16 RX6 ∈ wU := List.mem_filter.mpr ⟨tb_1 _ (List.mem_of_getElem? (i := 67) rfl), rfl⟩
theorem q_17 : Cond.instantiable RX6 9 ∈ wU := List.mem_filter.mpr ⟨tb_1 _ (List.mem_of_getElem? (i := 68) rfl), rfl⟩
theorem q_18 : Cond.initialized RX6 ∈ wU := List.mem_filter.mpr ⟨tb_1 _ (List.mem_of_getElem? (i := 3) rfl), rfl⟩
theorem q_19 : Cond.fieldLink RX8 19 "HiddenEdges" "sight" "LHiddenEdges$Sight;" ∈ wU := List.mem_filter.mpr ⟨tb_2 _ (List.mem_of_getElem? (i := 21) rfl), rfl⟩
theorem q_20 : Cond.classLink RX8 23 RX1 ∈ wU := List.mem_filter.mpr ⟨tb_1 _ (List.mem_of_getElem? (i := 105) rfl), rfl⟩
theorem q_21 : Cond.instantiable RX1 7 ∈ wU := List.mem_filter.mpr ⟨tb_1 _ (List.mem_of_getElem? (i := 106) rfl), rfl⟩
theorem q_22 : Cond.initialized RX1 ∈ wU := List.mem_filter.mpr ⟨tb_1 _ (List.mem_of_getElem? (i := 4) rfl), rfl⟩
theorem q_23 : Cond.fieldLink RX8 26 "HiddenEdges" "edges" "LHiddenEdges$Edges;" ∈ wU := List.mem_filter.mpr ⟨tb_2 _ (List.mem_of_getElem? (i := 22) rfl), rfl⟩
theorem q_24 : Cond.classLink RX8 30 RX0 ∈ wU := List.mem_filter.mpr ⟨tb_1 _ (List.mem_of_getElem? (i := 148) rfl), rfl⟩
theorem q_25 : Cond.instantiable RX0 8 ∈ wU := List.mem_filter.mpr ⟨tb_1 _ (List.mem_of_getElem? (i := 149) rfl), rfl⟩
theorem q_26 : Cond.initialized RX0 ∈ wU := List.mem_filter.mpr ⟨tb_1 _ (List.mem_of_getElem? (i := 5) rfl), rfl⟩
theorem q_27 : Cond.fieldLink RX8 33 "HiddenEdges" "cuts" "LHiddenEdges$Cuts;" ∈ wU := List.mem_filter.mpr ⟨tb_2 _ (List.mem_of_getElem? (i := 23) rfl), rfl⟩
theorem q_28 : Cond.classLink RX8 37 RX5 ∈ wU := List.mem_filter.mpr ⟨tb_1 _ (List.mem_of_getElem? (i := 185) rfl), rfl⟩
theorem q_29 : Cond.instantiable RX5 5 ∈ wU := List.mem_filter.mpr ⟨tb_1 _ (List.mem_of_getElem? (i := 186) rfl), rfl⟩
theorem q_30 : Cond.initialized RX5 ∈ wU := List.mem_filter.mpr ⟨tb_1 _ (List.mem_of_getElem? (i := 6) rfl), rfl⟩
theorem q_31 : Cond.fieldLink RX8 40 "HiddenEdges" "pieces" "LHiddenEdges$Pieces;" ∈ wU := List.mem_filter.mpr ⟨tb_2 _ (List.mem_of_getElem? (i := 24) rfl), rfl⟩
theorem q_32 : Cond.classLink RX8 44 RX7 ∈ wU := List.mem_filter.mpr ⟨tb_1 _ (List.mem_of_getElem? (i := 212) rfl), rfl⟩
theorem q_33 : Cond.instantiable RX7 5 ∈ wU := List.mem_filter.mpr ⟨tb_1 _ (List.mem_of_getElem? (i := 213) rfl), rfl⟩
theorem q_34 : Cond.initialized RX7 ∈ wU := List.mem_filter.mpr ⟨tb_1 _ (List.mem_of_getElem? (i := 7) rfl), rfl⟩
theorem q_35 : Cond.fieldLink RX8 47 "HiddenEdges" "strokes" "LHiddenEdges$Strokes;" ∈ wU := List.mem_filter.mpr ⟨tb_2 _ (List.mem_of_getElem? (i := 25) rfl), rfl⟩
theorem q_36 : Cond.classLink RX8 51 RX3 ∈ wU := List.mem_filter.mpr ⟨tb_1 _ (List.mem_of_getElem? (i := 237) rfl), rfl⟩
theorem q_37 : Cond.instantiable RX3 4 ∈ wU := List.mem_filter.mpr ⟨tb_1 _ (List.mem_of_getElem? (i := 238) rfl), rfl⟩
theorem q_38 : Cond.initialized RX3 ∈ wU := List.mem_filter.mpr ⟨tb_1 _ (List.mem_of_getElem? (i := 8) rfl), rfl⟩
theorem q_39 : Cond.fieldLink RX8 54 "HiddenEdges" "meeting" "LHiddenEdges$Meeting;" ∈ wU := List.mem_filter.mpr ⟨tb_2 _ (List.mem_of_getElem? (i := 26) rfl), rfl⟩
theorem q_40 : Cond.arrayClass .int ∈ wU := List.mem_filter.mpr ⟨tb_1 _ (List.mem_of_getElem? (i := 66) rfl), rfl⟩
theorem q_41 : Cond.fieldLink RX8 58 "HiddenEdges" "corner" "[I" ∈ wU := List.mem_filter.mpr ⟨tb_2 _ (List.mem_of_getElem? (i := 27) rfl), rfl⟩
theorem q_42 : Cond.fieldLink RX8 62 "HiddenEdges" "settled" "I" ∈ wU := List.mem_filter.mpr ⟨tb_2 _ (List.mem_of_getElem? (i := 28) rfl), rfl⟩
theorem q_43 : Cond.fieldLink RX8 66 "HiddenEdges" "meetings" "I" ∈ wU := List.mem_filter.mpr ⟨tb_2 _ (List.mem_of_getElem? (i := 29) rfl), rfl⟩
theorem q_44 : Cond.instanceMethod yX4_init ∈ wU := List.mem_filter.mpr ⟨tb_1 _ (List.mem_of_getElem? (i := 25) rfl), rfl⟩
theorem q_45 : Cond.code yX4_init cX4_init 1 none ∈ wU := List.mem_filter.mpr ⟨tb_1 _ (List.mem_of_getElem? (i := 26) rfl), rfl⟩
theorem q_46 : Cond.methodLink RX4 3 objectInit ∈ wU := List.mem_filter.mpr ⟨tb_1 _ (List.mem_of_getElem? (i := 27) rfl), rfl⟩
theorem q_47 : Cond.fieldLink RX4 9 "HiddenEdges$Mesh" "x" "[I" ∈ wU := List.mem_filter.mpr ⟨tb_1 _ (List.mem_of_getElem? (i := 28) rfl), rfl⟩
theorem q_48 : Cond.fieldLink RX4 15 "HiddenEdges$Mesh" "y" "[I" ∈ wU := List.mem_filter.mpr ⟨tb_1 _ (List.mem_of_getElem? (i := 31) rfl), rfl⟩
theorem q_49 : Cond.fieldLink RX4 18 "HiddenEdges$Mesh" "z" "[I" ∈ wU := List.mem_filter.mpr ⟨tb_1 _ (List.mem_of_getElem? (i := 34) rfl), rfl⟩
theorem q_50 : Cond.fieldLink RX4 21 "HiddenEdges$Mesh" "corners" "[I" ∈ wU := List.mem_filter.mpr ⟨tb_1 _ (List.mem_of_getElem? (i := 37) rfl), rfl⟩
theorem q_51 : Cond.fieldLink RX4 24 "HiddenEdges$Mesh" "wireEnds" "[I" ∈ wU := List.mem_filter.mpr ⟨tb_1 _ (List.mem_of_getElem? (i := 38) rfl), rfl⟩
theorem q_52 : Cond.instanceMethod yX6_init ∈ wU := List.mem_filter.mpr ⟨tb_1 _ (List.mem_of_getElem? (i := 70) rfl), rfl⟩
theorem q_53 : Cond.code yX6_init cX6_init 1 none ∈ wU := List.mem_filter.mpr ⟨tb_1 _ (List.mem_of_getElem? (i := 71) rfl), rfl⟩
theorem q_54 : Cond.methodLink RX6 3 objectInit ∈ wU := List.mem_filter.mpr ⟨tb_1 _ (List.mem_of_getElem? (i := 72) rfl), rfl⟩
theorem q_55 : Cond.fieldLink RX6 9 "HiddenEdges$Sight" "a" "I" ∈ wU := List.mem_filter.mpr ⟨tb_1 _ (List.mem_of_getElem? (i := 73) rfl), rfl⟩
theorem q_56 : Cond.fieldLink RX6 15 "HiddenEdges$Sight" "b" "I" ∈ wU := List.mem_filter.mpr ⟨tb_1 _ (List.mem_of_getElem? (i := 74) rfl), rfl⟩
theorem q_57 : Cond.fieldLink RX6 18 "HiddenEdges$Sight" "c" "I" ∈ wU := List.mem_filter.mpr ⟨tb_1 _ (List.mem_of_getElem? (i := 75) rfl), rfl⟩
theorem q_58 : Cond.fieldLink RX6 21 "HiddenEdges$Sight" "sweep" "[I" ∈ wU := List.mem_filter.mpr ⟨tb_1 _ (List.mem_of_getElem? (i := 78) rfl), rfl⟩
theorem q_59 : Cond.fieldLink RX6 25 "HiddenEdges$Sight" "normal" "[I" ∈ wU := List.mem_filter.mpr ⟨tb_1 _ (List.mem_of_getElem? (i := 79) rfl), rfl⟩
theorem q_60 : Cond.fieldLink RX6 28 "HiddenEdges$Sight" "margin" "[I" ∈ wU := List.mem_filter.mpr ⟨tb_1 _ (List.mem_of_getElem? (i := 80) rfl), rfl⟩
theorem q_61 : Cond.fieldLink RX6 31 "HiddenEdges$Sight" "height" "[I" ∈ wU := List.mem_filter.mpr ⟨tb_1 _ (List.mem_of_getElem? (i := 81) rfl), rfl⟩
theorem q_62 : Cond.fieldLink RX6 34 "HiddenEdges$Sight" "swing" "[I" ∈ wU := List.mem_filter.mpr ⟨tb_1 _ (List.mem_of_getElem? (i := 83) rfl), rfl⟩
theorem q_63 : Cond.instanceMethod yX1_init ∈ wU := List.mem_filter.mpr ⟨tb_1 _ (List.mem_of_getElem? (i := 108) rfl), rfl⟩
theorem q_64 : Cond.code yX1_init cX1_init 1 none ∈ wU := List.mem_filter.mpr ⟨tb_1 _ (List.mem_of_getElem? (i := 109) rfl), rfl⟩
theorem q_65 : Cond.methodLink RX1 3 objectInit ∈ wU := List.mem_filter.mpr ⟨tb_1 _ (List.mem_of_getElem? (i := 110) rfl), rfl⟩
theorem q_66 : Cond.fieldLink RX1 9 "HiddenEdges$Edges" "number" "[I" ∈ wU := List.mem_filter.mpr ⟨tb_1 _ (List.mem_of_getElem? (i := 111) rfl), rfl⟩
theorem q_67 : Cond.fieldLink RX1 15 "HiddenEdges$Edges" "shared" "[I" ∈ wU := List.mem_filter.mpr ⟨tb_1 _ (List.mem_of_getElem? (i := 112) rfl), rfl⟩
theorem q_68 : Cond.fieldLink RX1 18 "HiddenEdges$Edges" "low" "[I" ∈ wU := List.mem_filter.mpr ⟨tb_1 _ (List.mem_of_getElem? (i := 113) rfl), rfl⟩
theorem q_69 : Cond.fieldLink RX1 21 "HiddenEdges$Edges" "high" "[I" ∈ wU := List.mem_filter.mpr ⟨tb_1 _ (List.mem_of_getElem? (i := 118) rfl), rfl⟩
theorem q_70 : Cond.fieldLink RX1 24 "HiddenEdges$Edges" "sharing" "[I" ∈ wU := List.mem_filter.mpr ⟨tb_1 _ (List.mem_of_getElem? (i := 123) rfl), rfl⟩
theorem q_71 : Cond.fieldLink RX1 27 "HiddenEdges$Edges" "sort" "[I" ∈ wU := List.mem_filter.mpr ⟨tb_1 _ (List.mem_of_getElem? (i := 125) rfl), rfl⟩
theorem q_72 : Cond.instanceMethod yX0_init ∈ wU := List.mem_filter.mpr ⟨tb_1 _ (List.mem_of_getElem? (i := 151) rfl), rfl⟩
theorem q_73 : Cond.code yX0_init cX0_init 1 none ∈ wU := List.mem_filter.mpr ⟨tb_1 _ (List.mem_of_getElem? (i := 152) rfl), rfl⟩
theorem q_74 : Cond.methodLink RX0 3 objectInit ∈ wU := List.mem_filter.mpr ⟨tb_1 _ (List.mem_of_getElem? (i := 153) rfl), rfl⟩
theorem q_75 : Cond.arrayClass .long ∈ wU := List.mem_filter.mpr ⟨tb_1 _ (List.mem_of_getElem? (i := 184) rfl), rfl⟩
theorem q_76 : Cond.fieldLink RX0 9 "HiddenEdges$Cuts" "begin" "[J" ∈ wU := List.mem_filter.mpr ⟨tb_1 _ (List.mem_of_getElem? (i := 154) rfl), rfl⟩
theorem q_77 : Cond.fieldLink RX0 15 "HiddenEdges$Cuts" "end" "[J" ∈ wU := List.mem_filter.mpr ⟨tb_1 _ (List.mem_of_getElem? (i := 155) rfl), rfl⟩
theorem q_78 : Cond.fieldLink RX0 18 "HiddenEdges$Cuts" "loaded" "I" ∈ wU := List.mem_filter.mpr ⟨tb_1 _ (List.mem_of_getElem? (i := 157) rfl), rfl⟩
theorem q_79 : Cond.fieldLink RX0 22 "HiddenEdges$Cuts" "at" "[J" ∈ wU := List.mem_filter.mpr ⟨tb_1 _ (List.mem_of_getElem? (i := 159) rfl), rfl⟩
theorem q_80 : Cond.fieldLink RX0 25 "HiddenEdges$Cuts" "quantity" "[I" ∈ wU := List.mem_filter.mpr ⟨tb_1 _ (List.mem_of_getElem? (i := 161) rfl), rfl⟩
theorem q_81 : Cond.instanceMethod yX5_init ∈ wU := List.mem_filter.mpr ⟨tb_1 _ (List.mem_of_getElem? (i := 188) rfl), rfl⟩
theorem q_82 : Cond.code yX5_init cX5_init 1 none ∈ wU := List.mem_filter.mpr ⟨tb_1 _ (List.mem_of_getElem? (i := 189) rfl), rfl⟩
theorem q_83 : Cond.methodLink RX5 3 objectInit ∈ wU := List.mem_filter.mpr ⟨tb_1 _ (List.mem_of_getElem? (i := 190) rfl), rfl⟩
theorem q_84 : Cond.fieldLink RX5 9 "HiddenEdges$Pieces" "count" "[I" ∈ wU := List.mem_filter.mpr ⟨tb_1 _ (List.mem_of_getElem? (i := 191) rfl), rfl⟩
theorem q_85 : Cond.fieldLink RX5 15 "HiddenEdges$Pieces" "visible" "[J" ∈ wU := List.mem_filter.mpr ⟨tb_1 _ (List.mem_of_getElem? (i := 193) rfl), rfl⟩
theorem q_86 : Cond.instanceMethod yX7_init ∈ wU := List.mem_filter.mpr ⟨tb_1 _ (List.mem_of_getElem? (i := 215) rfl), rfl⟩
theorem q_87 : Cond.code yX7_init cX7_init 1 none ∈ wU := List.mem_filter.mpr ⟨tb_1 _ (List.mem_of_getElem? (i := 216) rfl), rfl⟩
theorem q_88 : Cond.methodLink RX7 3 objectInit ∈ wU := List.mem_filter.mpr ⟨tb_1 _ (List.mem_of_getElem? (i := 217) rfl), rfl⟩
theorem q_89 : Cond.fieldLink RX7 9 "HiddenEdges$Strokes" "left" "[J" ∈ wU := List.mem_filter.mpr ⟨tb_1 _ (List.mem_of_getElem? (i := 218) rfl), rfl⟩
theorem q_90 : Cond.fieldLink RX7 15 "HiddenEdges$Strokes" "step" "[I" ∈ wU := List.mem_filter.mpr ⟨tb_1 _ (List.mem_of_getElem? (i := 220) rfl), rfl⟩
theorem q_91 : Cond.fieldLink RX7 19 "HiddenEdges$Strokes" "first" "[I" ∈ wU := List.mem_filter.mpr ⟨tb_1 _ (List.mem_of_getElem? (i := 222) rfl), rfl⟩
theorem q_92 : Cond.instanceMethod yX3_init ∈ wU := List.mem_filter.mpr ⟨tb_2 _ (List.mem_of_getElem? (i := 0) rfl), rfl⟩
theorem q_93 : Cond.code yX3_init cX3_init 1 none ∈ wU := List.mem_filter.mpr ⟨tb_2 _ (List.mem_of_getElem? (i := 1) rfl), rfl⟩
theorem q_94 : Cond.methodLink RX3 1 objectInit ∈ wU := List.mem_filter.mpr ⟨tb_2 _ (List.mem_of_getElem? (i := 2) rfl), rfl⟩
theorem q_95 : Cond.methodLink RL 12 yX9_init ∈ wU := List.mem_filter.mpr ⟨tb_3 _ (List.mem_of_getElem? (i := 216) rfl), rfl⟩
theorem q_96 : Cond.instanceMethod yX9_init ∈ wU := List.mem_filter.mpr ⟨tb_3 _ (List.mem_of_getElem? (i := 217) rfl), rfl⟩
theorem q_97 : Cond.code yX9_init cX9_init 1 none ∈ wU := List.mem_filter.mpr ⟨tb_3 _ (List.mem_of_getElem? (i := 218) rfl), rfl⟩
theorem q_98 : Cond.methodLink RX9 1 objectInit ∈ wU := List.mem_filter.mpr ⟨tb_3 _ (List.mem_of_getElem? (i := 219) rfl), rfl⟩
theorem q_99 : Cond.fieldLink RX9 7 "HiddenEdgesModel" "xOf" "[I" ∈ wU := List.mem_filter.mpr ⟨tb_3 _ (List.mem_of_getElem? (i := 221) rfl), rfl⟩
theorem q_100 : Cond.fieldLink RX9 13 "HiddenEdgesModel" "yOf" "[I" ∈ wU := List.mem_filter.mpr ⟨tb_3 _ (List.mem_of_getElem? (i := 222) rfl), rfl⟩
theorem q_101 : Cond.fieldLink RX9 16 "HiddenEdgesModel" "zOf" "[I" ∈ wU := List.mem_filter.mpr ⟨tb_3 _ (List.mem_of_getElem? (i := 223) rfl), rfl⟩
theorem q_102 : Cond.fieldLink RX9 19 "HiddenEdgesModel" "cornerOf" "[I" ∈ wU := List.mem_filter.mpr ⟨tb_3 _ (List.mem_of_getElem? (i := 225) rfl), rfl⟩
theorem q_103 : Cond.fieldLink RX9 22 "HiddenEdgesModel" "wireOne" "[I" ∈ wU := List.mem_filter.mpr ⟨tb_3 _ (List.mem_of_getElem? (i := 227) rfl), rfl⟩
theorem q_104 : Cond.fieldLink RX9 25 "HiddenEdgesModel" "wireOther" "[I" ∈ wU := List.mem_filter.mpr ⟨tb_3 _ (List.mem_of_getElem? (i := 228) rfl), rfl⟩
theorem q_105 : Cond.fieldLink RX9 28 "HiddenEdgesModel" "dz" "I" ∈ wU := List.mem_filter.mpr ⟨tb_3 _ (List.mem_of_getElem? (i := 231) rfl), rfl⟩
theorem q_106 : Cond.fieldLink RX9 32 "HiddenEdgesModel" "blockCorner" "[I" ∈ wU := List.mem_filter.mpr ⟨tb_3 _ (List.mem_of_getElem? (i := 232) rfl), rfl⟩
theorem q_107 : Cond.fieldLink RX9 35 "HiddenEdgesModel" "blockPoint" "[I" ∈ wU := List.mem_filter.mpr ⟨tb_3 _ (List.mem_of_getElem? (i := 233) rfl), rfl⟩
theorem q_108 : Cond.fieldLink RX9 38 "HiddenEdgesModel" "edgeOne" "[I" ∈ wU := List.mem_filter.mpr ⟨tb_3 _ (List.mem_of_getElem? (i := 236) rfl), rfl⟩
theorem q_109 : Cond.fieldLink RX9 41 "HiddenEdgesModel" "edgeOther" "[I" ∈ wU := List.mem_filter.mpr ⟨tb_3 _ (List.mem_of_getElem? (i := 237) rfl), rfl⟩
theorem q_110 : Cond.fieldLink RX9 44 "HiddenEdgesModel" "facesAt" "[I" ∈ wU := List.mem_filter.mpr ⟨tb_3 _ (List.mem_of_getElem? (i := 238) rfl), rfl⟩
theorem q_111 : Cond.fieldLink RX9 47 "HiddenEdgesModel" "sortOf" "[I" ∈ wU := List.mem_filter.mpr ⟨tb_3 _ (List.mem_of_getElem? (i := 239) rfl), rfl⟩
theorem q_112 : Cond.fieldLink RX9 50 "HiddenEdgesModel" "manyCuts" "[I" ∈ wU := List.mem_filter.mpr ⟨tb_4 _ (List.mem_of_getElem? (i := 0) rfl), rfl⟩
theorem q_113 : Cond.fieldLink RX9 53 "HiddenEdgesModel" "cutUp" "[J" ∈ wU := List.mem_filter.mpr ⟨tb_4 _ (List.mem_of_getElem? (i := 1) rfl), rfl⟩
theorem q_114 : Cond.fieldLink RX9 57 "HiddenEdgesModel" "cutDown" "[J" ∈ wU := List.mem_filter.mpr ⟨tb_4 _ (List.mem_of_getElem? (i := 2) rfl), rfl⟩
theorem q_115 : Cond.fieldLink RX9 60 "HiddenEdgesModel" "quantity" "[I" ∈ wU := List.mem_filter.mpr ⟨tb_4 _ (List.mem_of_getElem? (i := 3) rfl), rfl⟩
theorem q_116 : Cond.fieldLink RX9 63 "HiddenEdgesModel" "strokeAt" "[I" ∈ wU := List.mem_filter.mpr ⟨tb_4 _ (List.mem_of_getElem? (i := 14) rfl), rfl⟩
theorem q_117 : Cond.fieldLink RX9 66 "HiddenEdgesModel" "laidEdge" "[I" ∈ wU := List.mem_filter.mpr ⟨tb_4 _ (List.mem_of_getElem? (i := 15) rfl), rfl⟩
theorem q_118 : Cond.fieldLink RX9 69 "HiddenEdgesModel" "laidPiece" "[I" ∈ wU := List.mem_filter.mpr ⟨tb_4 _ (List.mem_of_getElem? (i := 16) rfl), rfl⟩
theorem q_119 : Cond.arrayClass .boolean ∈ wU := List.mem_filter.mpr ⟨tb_4 _ (List.mem_of_getElem? (i := 98) rfl), rfl⟩
theorem q_120 : Cond.fieldLink RX9 72 "HiddenEdgesModel" "laidOn" "[Z" ∈ wU := List.mem_filter.mpr ⟨tb_4 _ (List.mem_of_getElem? (i := 17) rfl), rfl⟩
theorem q_121 : Cond.fieldLink RX9 76 "HiddenEdgesModel" "isLaid" "[Z" ∈ wU := List.mem_filter.mpr ⟨tb_4 _ (List.mem_of_getElem? (i := 18) rfl), rfl⟩
theorem q_122 : Cond.methodLink RL 13 yX8_point ∈ wU := List.mem_filter.mpr ⟨tb_2 _ (List.mem_of_getElem? (i := 51) rfl), rfl⟩
theorem q_123 : Cond.instanceMethod yX8_point ∈ wU := List.mem_filter.mpr ⟨tb_2 _ (List.mem_of_getElem? (i := 52) rfl), rfl⟩
theorem q_124 : Cond.selects RX8 yX8_point yX8_point ∈ wU := List.mem_filter.mpr ⟨tb_2 _ (List.mem_of_getElem? (i := 53) rfl), rfl⟩
theorem q_125 : Cond.code yX8_point cX8_point 4 (some .int) ∈ wU := List.mem_filter.mpr ⟨tb_2 _ (List.mem_of_getElem? (i := 54) rfl), rfl⟩
theorem q_126 : Cond.fieldLink RX8 77 "HiddenEdges$Mesh" "points" "I" ∈ wU := List.mem_filter.mpr ⟨tb_1 _ (List.mem_of_getElem? (i := 40) rfl), rfl⟩
theorem q_127 : Cond.methodLink RX8 69 yX8_isPlace ∈ wU := List.mem_filter.mpr ⟨tb_2 _ (List.mem_of_getElem? (i := 55) rfl), rfl⟩
theorem q_128 : Cond.static yX8_isPlace ∈ wU := List.mem_filter.mpr ⟨tb_2 _ (List.mem_of_getElem? (i := 56) rfl), rfl⟩
theorem q_129 : Cond.code yX8_isPlace cX8_isPlace 3 (some .boolean) ∈ wU := List.mem_filter.mpr ⟨tb_2 _ (List.mem_of_getElem? (i := 57) rfl), rfl⟩
theorem q_130 : Cond.methodLink RX8 126 yX8_within ∈ wU := List.mem_filter.mpr ⟨tb_2 _ (List.mem_of_getElem? (i := 58) rfl), rfl⟩
theorem q_131 : Cond.static yX8_within ∈ wU := List.mem_filter.mpr ⟨tb_2 _ (List.mem_of_getElem? (i := 59) rfl), rfl⟩
theorem q_132 : Cond.code yX8_within cX8_within 2 (some .boolean) ∈ wU := List.mem_filter.mpr ⟨tb_2 _ (List.mem_of_getElem? (i := 60) rfl), rfl⟩
theorem q_133 : Cond.methodLink RX8 73 yX4_pointAt ∈ wU := List.mem_filter.mpr ⟨tb_2 _ (List.mem_of_getElem? (i := 61) rfl), rfl⟩
theorem q_134 : Cond.instanceMethod yX4_pointAt ∈ wU := List.mem_filter.mpr ⟨tb_2 _ (List.mem_of_getElem? (i := 62) rfl), rfl⟩
theorem q_135 : Cond.selects RX4 yX4_pointAt yX4_pointAt ∈ wU := List.mem_filter.mpr ⟨tb_2 _ (List.mem_of_getElem? (i := 63) rfl), rfl⟩
theorem q_136 : Cond.code yX4_pointAt cX4_pointAt 5 (some .int) ∈ wU := List.mem_filter.mpr ⟨tb_2 _ (List.mem_of_getElem? (i := 64) rfl), rfl⟩
theorem q_137 : Cond.fieldLink RX4 27 "HiddenEdges$Mesh" "points" "I" ∈ wU := List.mem_filter.mpr ⟨tb_1 _ (List.mem_of_getElem? (i := 39) rfl), rfl⟩
theorem q_138 : Cond.methodLink RX8 80 yX8_forget ∈ wU := List.mem_filter.mpr ⟨tb_2 _ (List.mem_of_getElem? (i := 65) rfl), rfl⟩
theorem q_139 : Cond.instanceMethod yX8_forget ∈ wU := List.mem_filter.mpr ⟨tb_2 _ (List.mem_of_getElem? (i := 67) rfl), rfl⟩
theorem q_140 : Cond.selects RX8 yX8_forget yX8_forget ∈ wU := List.mem_filter.mpr ⟨pb_1 (⟨"HiddenEdges", "forget", "()V"⟩, 10) (List.mem_of_getElem? (i := 0) rfl), rfl⟩
theorem q_141 : Cond.code yX8_forget cX8_forget 1 none ∈ wU := List.mem_filter.mpr ⟨tb_2 _ (List.mem_of_getElem? (i := 68) rfl), rfl⟩
theorem q_142 : Cond.methodLink RX8 83 yX4_addPoint ∈ wU := List.mem_filter.mpr ⟨tb_2 _ (List.mem_of_getElem? (i := 69) rfl), rfl⟩
theorem q_143 : Cond.instanceMethod yX4_addPoint ∈ wU := List.mem_filter.mpr ⟨tb_2 _ (List.mem_of_getElem? (i := 70) rfl), rfl⟩
theorem q_144 : Cond.selects RX4 yX4_addPoint yX4_addPoint ∈ wU := List.mem_filter.mpr ⟨tb_2 _ (List.mem_of_getElem? (i := 71) rfl), rfl⟩
theorem q_145 : Cond.code yX4_addPoint cX4_addPoint 4 (some .int) ∈ wU := List.mem_filter.mpr ⟨tb_2 _ (List.mem_of_getElem? (i := 72) rfl), rfl⟩
theorem q_146 : Cond.methodLink RX4 34 yX4_put ∈ wU := List.mem_filter.mpr ⟨tb_2 _ (List.mem_of_getElem? (i := 73) rfl), rfl⟩
theorem q_147 : Cond.instanceMethod yX4_put ∈ wU := List.mem_filter.mpr ⟨tb_2 _ (List.mem_of_getElem? (i := 74) rfl), rfl⟩
theorem q_148 : Cond.selects RX4 yX4_put yX4_put ∈ wU := List.mem_filter.mpr ⟨tb_2 _ (List.mem_of_getElem? (i := 75) rfl), rfl⟩
theorem q_149 : Cond.code yX4_put cX4_put 5 none ∈ wU := List.mem_filter.mpr ⟨tb_2 _ (List.mem_of_getElem? (i := 76) rfl), rfl⟩
theorem q_150 : Cond.methodLink RL 17 yX9_point ∈ wU := List.mem_filter.mpr ⟨tb_4 _ (List.mem_of_getElem? (i := 99) rfl), rfl⟩
theorem q_151 : Cond.instanceMethod yX9_point ∈ wU := List.mem_filter.mpr ⟨tb_4 _ (List.mem_of_getElem? (i := 100) rfl), rfl⟩
theorem q_152 : Cond.selects RX9 yX9_point yX9_point ∈ wU := List.mem_filter.mpr ⟨tb_4 _ (List.mem_of_getElem? (i := 101) rfl), rfl⟩
theorem q_153 : Cond.code yX9_point cX9_point 4 (some .int) ∈ wU := List.mem_filter.mpr ⟨tb_4 _ (List.mem_of_getElem? (i := 102) rfl), rfl⟩
theorem q_154 : Cond.fieldLink RX9 79 "HiddenEdgesModel" "points" "I" ∈ wU := List.mem_filter.mpr ⟨tb_3 _ (List.mem_of_getElem? (i := 220) rfl), rfl⟩
theorem q_155 : Cond.methodLink RX9 93 yX9_isPlace ∈ wU := List.mem_filter.mpr ⟨tb_4 _ (List.mem_of_getElem? (i := 103) rfl), rfl⟩
theorem q_156 : Cond.static yX9_isPlace ∈ wU := List.mem_filter.mpr ⟨tb_4 _ (List.mem_of_getElem? (i := 104) rfl), rfl⟩
theorem q_157 : Cond.code yX9_isPlace cX9_isPlace 3 (some .boolean) ∈ wU := List.mem_filter.mpr ⟨tb_4 _ (List.mem_of_getElem? (i := 105) rfl), rfl⟩
theorem q_158 : Cond.methodLink RX9 82 yX9_within ∈ wU := List.mem_filter.mpr ⟨tb_4 _ (List.mem_of_getElem? (i := 106) rfl), rfl⟩
theorem q_159 : Cond.static yX9_within ∈ wU := List.mem_filter.mpr ⟨tb_4 _ (List.mem_of_getElem? (i := 107) rfl), rfl⟩
theorem q_160 : Cond.code yX9_within cX9_within 3 (some .boolean) ∈ wU := List.mem_filter.mpr ⟨tb_4 _ (List.mem_of_getElem? (i := 108) rfl), rfl⟩
theorem q_161 : Cond.methodLink RX9 96 yX9_pointAt ∈ wU := List.mem_filter.mpr ⟨tb_4 _ (List.mem_of_getElem? (i := 109) rfl), rfl⟩
theorem q_162 : Cond.instanceMethod yX9_pointAt ∈ wU := List.mem_filter.mpr ⟨tb_4 _ (List.mem_of_getElem? (i := 111) rfl), rfl⟩
theorem q_163 : Cond.selects RX9 yX9_pointAt yX9_pointAt ∈ wU := List.mem_filter.mpr ⟨pb_2 (⟨"HiddenEdgesModel", "pointAt", "(III)I"⟩, 39) (List.mem_of_getElem? (i := 1) rfl), rfl⟩
theorem q_164 : Cond.code yX9_pointAt cX9_pointAt 5 (some .int) ∈ wU := List.mem_filter.mpr ⟨tb_4 _ (List.mem_of_getElem? (i := 112) rfl), rfl⟩
theorem q_165 : Cond.methodLink RX9 100 yX9_comes ∈ wU := List.mem_filter.mpr ⟨tb_4 _ (List.mem_of_getElem? (i := 113) rfl), rfl⟩
theorem q_166 : Cond.instanceMethod yX9_comes ∈ wU := List.mem_filter.mpr ⟨tb_4 _ (List.mem_of_getElem? (i := 115) rfl), rfl⟩
theorem q_167 : Cond.selects RX9 yX9_comes yX9_comes ∈ wU := List.mem_filter.mpr ⟨pb_2 (⟨"HiddenEdgesModel", "comes", "(III)V"⟩, 39) (List.mem_of_getElem? (i := 2) rfl), rfl⟩
theorem q_168 : Cond.code yX9_comes cX9_comes 4 none ∈ wU := List.mem_filter.mpr ⟨tb_4 _ (List.mem_of_getElem? (i := 116) rfl), rfl⟩
theorem q_169 : Cond.fieldLink RX9 89 "HiddenEdgesModel" "isFound" "Z" ∈ wU := List.mem_filter.mpr ⟨tb_3 _ (List.mem_of_getElem? (i := 234) rfl), rfl⟩
theorem q_170 : Cond.methodLink RL 18 yX8_face ∈ wU := List.mem_filter.mpr ⟨tb_2 _ (List.mem_of_getElem? (i := 77) rfl), rfl⟩
theorem q_171 : Cond.instanceMethod yX8_face ∈ wU := List.mem_filter.mpr ⟨tb_2 _ (List.mem_of_getElem? (i := 78) rfl), rfl⟩
theorem q_172 : Cond.selects RX8 yX8_face yX8_face ∈ wU := List.mem_filter.mpr ⟨tb_2 _ (List.mem_of_getElem? (i := 79) rfl), rfl⟩
theorem q_173 : Cond.code yX8_face cX8_face 4 (some .int) ∈ wU := List.mem_filter.mpr ⟨tb_2 _ (List.mem_of_getElem? (i := 80) rfl), rfl⟩
theorem q_174 : Cond.fieldLink RX8 96 "HiddenEdges$Mesh" "faces" "I" ∈ wU := List.mem_filter.mpr ⟨tb_1 _ (List.mem_of_getElem? (i := 45) rfl), rfl⟩
theorem q_175 : Cond.methodLink RX8 86 yX4_hasPoint ∈ wU := List.mem_filter.mpr ⟨tb_2 _ (List.mem_of_getElem? (i := 81) rfl), rfl⟩
theorem q_176 : Cond.instanceMethod yX4_hasPoint ∈ wU := List.mem_filter.mpr ⟨tb_2 _ (List.mem_of_getElem? (i := 82) rfl), rfl⟩
theorem q_177 : Cond.selects RX4 yX4_hasPoint yX4_hasPoint ∈ wU := List.mem_filter.mpr ⟨tb_2 _ (List.mem_of_getElem? (i := 83) rfl), rfl⟩
theorem q_178 : Cond.code yX4_hasPoint cX4_hasPoint 2 (some .boolean) ∈ wU := List.mem_filter.mpr ⟨tb_2 _ (List.mem_of_getElem? (i := 84) rfl), rfl⟩
theorem q_179 : Cond.methodLink RX8 90 yX4_onLine ∈ wU := List.mem_filter.mpr ⟨tb_2 _ (List.mem_of_getElem? (i := 85) rfl), rfl⟩
theorem q_180 : Cond.instanceMethod yX4_onLine ∈ wU := List.mem_filter.mpr ⟨tb_2 _ (List.mem_of_getElem? (i := 86) rfl), rfl⟩
theorem q_181 : Cond.selects RX4 yX4_onLine yX4_onLine ∈ wU := List.mem_filter.mpr ⟨tb_2 _ (List.mem_of_getElem? (i := 87) rfl), rfl⟩
theorem q_182 : Cond.code yX4_onLine cX4_onLine 4 (some .boolean) ∈ wU := List.mem_filter.mpr ⟨tb_2 _ (List.mem_of_getElem? (i := 88) rfl), rfl⟩
theorem q_183 : Cond.methodLink RX4 41 yX4_area ∈ wU := List.mem_filter.mpr ⟨tb_2 _ (List.mem_of_getElem? (i := 89) rfl), rfl⟩
theorem q_184 : Cond.static yX4_area ∈ wU := List.mem_filter.mpr ⟨tb_2 _ (List.mem_of_getElem? (i := 90) rfl), rfl⟩
theorem q_185 : Cond.code yX4_area cX4_area 5 (some .int) ∈ wU := List.mem_filter.mpr ⟨tb_2 _ (List.mem_of_getElem? (i := 91) rfl), rfl⟩
theorem q_186 : Cond.methodLink RX8 93 yX4_hasFaceOn ∈ wU := List.mem_filter.mpr ⟨tb_2 _ (List.mem_of_getElem? (i := 92) rfl), rfl⟩
theorem q_187 : Cond.instanceMethod yX4_hasFaceOn ∈ wU := List.mem_filter.mpr ⟨tb_2 _ (List.mem_of_getElem? (i := 93) rfl), rfl⟩
theorem q_188 : Cond.selects RX4 yX4_hasFaceOn yX4_hasFaceOn ∈ wU := List.mem_filter.mpr ⟨tb_2 _ (List.mem_of_getElem? (i := 94) rfl), rfl⟩
theorem q_189 : Cond.code yX4_hasFaceOn cX4_hasFaceOn 5 (some .boolean) ∈ wU := List.mem_filter.mpr ⟨tb_2 _ (List.mem_of_getElem? (i := 95) rfl), rfl⟩
theorem q_190 : Cond.fieldLink RX4 31 "HiddenEdges$Mesh" "faces" "I" ∈ wU := List.mem_filter.mpr ⟨tb_1 _ (List.mem_of_getElem? (i := 44) rfl), rfl⟩
theorem q_191 : Cond.methodLink RX4 49 yX4_hasCorner ∈ wU := List.mem_filter.mpr ⟨tb_2 _ (List.mem_of_getElem? (i := 96) rfl), rfl⟩
theorem q_192 : Cond.instanceMethod yX4_hasCorner ∈ wU := List.mem_filter.mpr ⟨tb_2 _ (List.mem_of_getElem? (i := 97) rfl), rfl⟩
theorem q_193 : Cond.selects RX4 yX4_hasCorner yX4_hasCorner ∈ wU := List.mem_filter.mpr ⟨tb_2 _ (List.mem_of_getElem? (i := 98) rfl), rfl⟩
theorem q_194 : Cond.code yX4_hasCorner cX4_hasCorner 3 (some .boolean) ∈ wU := List.mem_filter.mpr ⟨tb_2 _ (List.mem_of_getElem? (i := 99) rfl), rfl⟩
theorem q_195 : Cond.methodLink RX4 45 yX4_cornerOf ∈ wU := List.mem_filter.mpr ⟨tb_2 _ (List.mem_of_getElem? (i := 100) rfl), rfl⟩
theorem q_196 : Cond.instanceMethod yX4_cornerOf ∈ wU := List.mem_filter.mpr ⟨tb_2 _ (List.mem_of_getElem? (i := 101) rfl), rfl⟩
theorem q_197 : Cond.selects RX4 yX4_cornerOf yX4_cornerOf ∈ wU := List.mem_filter.mpr ⟨tb_2 _ (List.mem_of_getElem? (i := 102) rfl), rfl⟩
theorem q_198 : Cond.code yX4_cornerOf cX4_cornerOf 3 (some .int) ∈ wU := List.mem_filter.mpr ⟨tb_2 _ (List.mem_of_getElem? (i := 103) rfl), rfl⟩
theorem q_199 : Cond.methodLink RX8 99 yX4_addFace ∈ wU := List.mem_filter.mpr ⟨tb_2 _ (List.mem_of_getElem? (i := 104) rfl), rfl⟩
theorem q_200 : Cond.instanceMethod yX4_addFace ∈ wU := List.mem_filter.mpr ⟨tb_2 _ (List.mem_of_getElem? (i := 105) rfl), rfl⟩
theorem q_201 : Cond.selects RX4 yX4_addFace yX4_addFace ∈ wU := List.mem_filter.mpr ⟨tb_2 _ (List.mem_of_getElem? (i := 106) rfl), rfl⟩
theorem q_202 : Cond.code yX4_addFace cX4_addFace 4 (some .int) ∈ wU := List.mem_filter.mpr ⟨tb_2 _ (List.mem_of_getElem? (i := 107) rfl), rfl⟩
theorem q_203 : Cond.methodLink RL 21 yX9_face ∈ wU := List.mem_filter.mpr ⟨tb_4 _ (List.mem_of_getElem? (i := 117) rfl), rfl⟩
theorem q_204 : Cond.instanceMethod yX9_face ∈ wU := List.mem_filter.mpr ⟨tb_4 _ (List.mem_of_getElem? (i := 118) rfl), rfl⟩
theorem q_205 : Cond.selects RX9 yX9_face yX9_face ∈ wU := List.mem_filter.mpr ⟨tb_4 _ (List.mem_of_getElem? (i := 119) rfl), rfl⟩
theorem q_206 : Cond.code yX9_face cX9_face 4 (some .int) ∈ wU := List.mem_filter.mpr ⟨tb_4 _ (List.mem_of_getElem? (i := 120) rfl), rfl⟩
theorem q_207 : Cond.fieldLink RX9 86 "HiddenEdgesModel" "faces" "I" ∈ wU := List.mem_filter.mpr ⟨tb_3 _ (List.mem_of_getElem? (i := 224) rfl), rfl⟩
theorem q_208 : Cond.methodLink RX9 112 yX9_isPoint ∈ wU := List.mem_filter.mpr ⟨tb_4 _ (List.mem_of_getElem? (i := 121) rfl), rfl⟩
theorem q_209 : Cond.instanceMethod yX9_isPoint ∈ wU := List.mem_filter.mpr ⟨tb_4 _ (List.mem_of_getElem? (i := 123) rfl), rfl⟩
theorem q_210 : Cond.selects RX9 yX9_isPoint yX9_isPoint ∈ wU := List.mem_filter.mpr ⟨pb_2 (⟨"HiddenEdgesModel", "isPoint", "(I)Z"⟩, 39) (List.mem_of_getElem? (i := 3) rfl), rfl⟩
theorem q_211 : Cond.code yX9_isPoint cX9_isPoint 2 (some .boolean) ∈ wU := List.mem_filter.mpr ⟨tb_4 _ (List.mem_of_getElem? (i := 124) rfl), rfl⟩
theorem q_212 : Cond.methodLink RX9 116 yX9_isStraight ∈ wU := List.mem_filter.mpr ⟨tb_4 _ (List.mem_of_getElem? (i := 125) rfl), rfl⟩
theorem q_213 : Cond.instanceMethod yX9_isStraight ∈ wU := List.mem_filter.mpr ⟨tb_4 _ (List.mem_of_getElem? (i := 127) rfl), rfl⟩
theorem q_214 : Cond.selects RX9 yX9_isStraight yX9_isStraight ∈ wU := List.mem_filter.mpr ⟨pb_2 (⟨"HiddenEdgesModel", "isStraight", "(III)Z"⟩, 39) (List.mem_of_getElem? (i := 4) rfl), rfl⟩
theorem q_215 : Cond.code yX9_isStraight cX9_isStraight 10 (some .boolean) ∈ wU := List.mem_filter.mpr ⟨tb_4 _ (List.mem_of_getElem? (i := 128) rfl), rfl⟩
theorem q_216 : Cond.methodLink RX9 119 yX9_isFaceOf ∈ wU := List.mem_filter.mpr ⟨tb_4 _ (List.mem_of_getElem? (i := 129) rfl), rfl⟩
theorem q_217 : Cond.instanceMethod yX9_isFaceOf ∈ wU := List.mem_filter.mpr ⟨tb_4 _ (List.mem_of_getElem? (i := 131) rfl), rfl⟩
theorem q_218 : Cond.selects RX9 yX9_isFaceOf yX9_isFaceOf ∈ wU := List.mem_filter.mpr ⟨pb_2 (⟨"HiddenEdgesModel", "isFaceOf", "(III)Z"⟩, 39) (List.mem_of_getElem? (i := 5) rfl), rfl⟩
theorem q_219 : Cond.code yX9_isFaceOf cX9_isFaceOf 5 (some .boolean) ∈ wU := List.mem_filter.mpr ⟨tb_4 _ (List.mem_of_getElem? (i := 132) rfl), rfl⟩
theorem q_220 : Cond.methodLink RX9 108 yX9_hasCorner ∈ wU := List.mem_filter.mpr ⟨tb_4 _ (List.mem_of_getElem? (i := 133) rfl), rfl⟩
theorem q_221 : Cond.instanceMethod yX9_hasCorner ∈ wU := List.mem_filter.mpr ⟨tb_4 _ (List.mem_of_getElem? (i := 135) rfl), rfl⟩
theorem q_222 : Cond.selects RX9 yX9_hasCorner yX9_hasCorner ∈ wU := List.mem_filter.mpr ⟨pb_2 (⟨"HiddenEdgesModel", "hasCorner", "(II)Z"⟩, 39) (List.mem_of_getElem? (i := 6) rfl), rfl⟩
theorem q_223 : Cond.code yX9_hasCorner cX9_hasCorner 3 (some .boolean) ∈ wU := List.mem_filter.mpr ⟨tb_4 _ (List.mem_of_getElem? (i := 136) rfl), rfl⟩
theorem q_224 : Cond.methodLink RX9 122 yX9_faceComes ∈ wU := List.mem_filter.mpr ⟨tb_4 _ (List.mem_of_getElem? (i := 137) rfl), rfl⟩
theorem q_225 : Cond.instanceMethod yX9_faceComes ∈ wU := List.mem_filter.mpr ⟨tb_4 _ (List.mem_of_getElem? (i := 139) rfl), rfl⟩
theorem q_226 : Cond.selects RX9 yX9_faceComes yX9_faceComes ∈ wU := List.mem_filter.mpr ⟨pb_2 (⟨"HiddenEdgesModel", "faceComes", "(III)V"⟩, 39) (List.mem_of_getElem? (i := 7) rfl), rfl⟩
theorem q_227 : Cond.code yX9_faceComes cX9_faceComes 4 none ∈ wU := List.mem_filter.mpr ⟨tb_4 _ (List.mem_of_getElem? (i := 140) rfl), rfl⟩
theorem q_228 : Cond.methodLink RL 22 yX8_wire ∈ wU := List.mem_filter.mpr ⟨tb_2 _ (List.mem_of_getElem? (i := 108) rfl), rfl⟩
theorem q_229 : Cond.instanceMethod yX8_wire ∈ wU := List.mem_filter.mpr ⟨tb_2 _ (List.mem_of_getElem? (i := 109) rfl), rfl⟩
theorem q_230 : Cond.selects RX8 yX8_wire yX8_wire ∈ wU := List.mem_filter.mpr ⟨tb_2 _ (List.mem_of_getElem? (i := 110) rfl), rfl⟩
theorem q_231 : Cond.code yX8_wire cX8_wire 3 (some .int) ∈ wU := List.mem_filter.mpr ⟨tb_2 _ (List.mem_of_getElem? (i := 111) rfl), rfl⟩
theorem q_232 : Cond.fieldLink RX8 106 "HiddenEdges$Mesh" "wires" "I" ∈ wU := List.mem_filter.mpr ⟨tb_1 _ (List.mem_of_getElem? (i := 47) rfl), rfl⟩
theorem q_233 : Cond.methodLink RX8 102 yX4_hasWire ∈ wU := List.mem_filter.mpr ⟨tb_2 _ (List.mem_of_getElem? (i := 112) rfl), rfl⟩
theorem q_234 : Cond.instanceMethod yX4_hasWire ∈ wU := List.mem_filter.mpr ⟨tb_2 _ (List.mem_of_getElem? (i := 113) rfl), rfl⟩
theorem q_235 : Cond.selects RX4 yX4_hasWire yX4_hasWire ∈ wU := List.mem_filter.mpr ⟨tb_2 _ (List.mem_of_getElem? (i := 114) rfl), rfl⟩
theorem q_236 : Cond.code yX4_hasWire cX4_hasWire 6 (some .boolean) ∈ wU := List.mem_filter.mpr ⟨tb_2 _ (List.mem_of_getElem? (i := 115) rfl), rfl⟩
theorem q_237 : Cond.fieldLink RX4 38 "HiddenEdges$Mesh" "wires" "I" ∈ wU := List.mem_filter.mpr ⟨tb_1 _ (List.mem_of_getElem? (i := 48) rfl), rfl⟩
theorem q_238 : Cond.methodLink RX8 109 yX4_addWire ∈ wU := List.mem_filter.mpr ⟨tb_2 _ (List.mem_of_getElem? (i := 116) rfl), rfl⟩
theorem q_239 : Cond.instanceMethod yX4_addWire ∈ wU := List.mem_filter.mpr ⟨tb_2 _ (List.mem_of_getElem? (i := 117) rfl), rfl⟩
theorem q_240 : Cond.selects RX4 yX4_addWire yX4_addWire ∈ wU := List.mem_filter.mpr ⟨tb_2 _ (List.mem_of_getElem? (i := 118) rfl), rfl⟩
theorem q_241 : Cond.code yX4_addWire cX4_addWire 3 (some .int) ∈ wU := List.mem_filter.mpr ⟨tb_2 _ (List.mem_of_getElem? (i := 119) rfl), rfl⟩
theorem q_242 : Cond.methodLink RL 26 yX9_wire ∈ wU := List.mem_filter.mpr ⟨tb_4 _ (List.mem_of_getElem? (i := 141) rfl), rfl⟩
theorem q_243 : Cond.instanceMethod yX9_wire ∈ wU := List.mem_filter.mpr ⟨tb_4 _ (List.mem_of_getElem? (i := 142) rfl), rfl⟩
theorem q_244 : Cond.selects RX9 yX9_wire yX9_wire ∈ wU := List.mem_filter.mpr ⟨tb_4 _ (List.mem_of_getElem? (i := 143) rfl), rfl⟩
theorem q_245 : Cond.code yX9_wire cX9_wire 3 (some .int) ∈ wU := List.mem_filter.mpr ⟨tb_4 _ (List.mem_of_getElem? (i := 144) rfl), rfl⟩
theorem q_246 : Cond.fieldLink RX9 125 "HiddenEdgesModel" "wires" "I" ∈ wU := List.mem_filter.mpr ⟨tb_3 _ (List.mem_of_getElem? (i := 226) rfl), rfl⟩
theorem q_247 : Cond.methodLink RX9 128 yX9_isWire ∈ wU := List.mem_filter.mpr ⟨tb_4 _ (List.mem_of_getElem? (i := 145) rfl), rfl⟩
theorem q_248 : Cond.instanceMethod yX9_isWire ∈ wU := List.mem_filter.mpr ⟨tb_4 _ (List.mem_of_getElem? (i := 147) rfl), rfl⟩
theorem q_249 : Cond.selects RX9 yX9_isWire yX9_isWire ∈ wU := List.mem_filter.mpr ⟨pb_2 (⟨"HiddenEdgesModel", "isWire", "(II)Z"⟩, 39) (List.mem_of_getElem? (i := 8) rfl), rfl⟩
theorem q_250 : Cond.code yX9_isWire cX9_isWire 4 (some .boolean) ∈ wU := List.mem_filter.mpr ⟨tb_4 _ (List.mem_of_getElem? (i := 148) rfl), rfl⟩
theorem q_251 : Cond.methodLink RL 27 yX8_block ∈ wU := List.mem_filter.mpr ⟨tb_2 _ (List.mem_of_getElem? (i := 120) rfl), rfl⟩
theorem q_252 : Cond.instanceMethod yX8_block ∈ wU := List.mem_filter.mpr ⟨tb_2 _ (List.mem_of_getElem? (i := 121) rfl), rfl⟩
theorem q_253 : Cond.selects RX8 yX8_block yX8_block ∈ wU := List.mem_filter.mpr ⟨tb_2 _ (List.mem_of_getElem? (i := 122) rfl), rfl⟩
theorem q_254 : Cond.code yX8_block cX8_block 9 (some .int) ∈ wU := List.mem_filter.mpr ⟨tb_2 _ (List.mem_of_getElem? (i := 123) rfl), rfl⟩
theorem q_255 : Cond.fieldLink RX8 123 "HiddenEdges" "BLOCK" "[I" ∈ wU := List.mem_filter.mpr ⟨tb_2 _ (List.mem_of_getElem? (i := 134) rfl), rfl⟩
theorem q_256 : Cond.methodLink RX8 113 yX8_isSide ∈ wU := List.mem_filter.mpr ⟨tb_2 _ (List.mem_of_getElem? (i := 124) rfl), rfl⟩
theorem q_257 : Cond.static yX8_isSide ∈ wU := List.mem_filter.mpr ⟨tb_2 _ (List.mem_of_getElem? (i := 125) rfl), rfl⟩
theorem q_258 : Cond.code yX8_isSide cX8_isSide 2 (some .boolean) ∈ wU := List.mem_filter.mpr ⟨tb_2 _ (List.mem_of_getElem? (i := 126) rfl), rfl⟩
theorem q_259 : Cond.methodLink RX8 116 yX8_bit ∈ wU := List.mem_filter.mpr ⟨tb_2 _ (List.mem_of_getElem? (i := 127) rfl), rfl⟩
theorem q_260 : Cond.static yX8_bit ∈ wU := List.mem_filter.mpr ⟨tb_2 _ (List.mem_of_getElem? (i := 128) rfl), rfl⟩
theorem q_261 : Cond.code yX8_bit cX8_bit 2 (some .int) ∈ wU := List.mem_filter.mpr ⟨tb_2 _ (List.mem_of_getElem? (i := 129) rfl), rfl⟩
theorem q_262 : Cond.methodLink RX8 119 yX8_hasFaceOfBlock ∈ wU := List.mem_filter.mpr ⟨tb_2 _ (List.mem_of_getElem? (i := 130) rfl), rfl⟩
theorem q_263 : Cond.instanceMethod yX8_hasFaceOfBlock ∈ wU := List.mem_filter.mpr ⟨tb_2 _ (List.mem_of_getElem? (i := 132) rfl), rfl⟩
theorem q_264 : Cond.selects RX8 yX8_hasFaceOfBlock yX8_hasFaceOfBlock ∈ wU := List.mem_filter.mpr ⟨pb_1 (⟨"HiddenEdges", "hasFaceOfBlock", "()Z"⟩, 10) (List.mem_of_getElem? (i := 1) rfl), rfl⟩
theorem q_265 : Cond.code yX8_hasFaceOfBlock cX8_hasFaceOfBlock 2 (some .boolean) ∈ wU := List.mem_filter.mpr ⟨tb_2 _ (List.mem_of_getElem? (i := 133) rfl), rfl⟩
theorem q_266 : Cond.methodLink RL 31 yX9_block ∈ wU := List.mem_filter.mpr ⟨tb_4 _ (List.mem_of_getElem? (i := 149) rfl), rfl⟩
theorem q_267 : Cond.instanceMethod yX9_block ∈ wU := List.mem_filter.mpr ⟨tb_4 _ (List.mem_of_getElem? (i := 150) rfl), rfl⟩
theorem q_268 : Cond.selects RX9 yX9_block yX9_block ∈ wU := List.mem_filter.mpr ⟨tb_4 _ (List.mem_of_getElem? (i := 151) rfl), rfl⟩
theorem q_269 : Cond.code yX9_block cX9_block 9 (some .int) ∈ wU := List.mem_filter.mpr ⟨tb_4 _ (List.mem_of_getElem? (i := 152) rfl), rfl⟩
theorem q_270 : Cond.methodLink RX9 131 yX9_isBlockThere ∈ wU := List.mem_filter.mpr ⟨tb_4 _ (List.mem_of_getElem? (i := 153) rfl), rfl⟩
theorem q_271 : Cond.instanceMethod yX9_isBlockThere ∈ wU := List.mem_filter.mpr ⟨tb_4 _ (List.mem_of_getElem? (i := 155) rfl), rfl⟩
theorem q_272 : Cond.selects RX9 yX9_isBlockThere yX9_isBlockThere ∈ wU := List.mem_filter.mpr ⟨pb_2 (⟨"HiddenEdgesModel", "isBlockThere", "()Z"⟩, 39) (List.mem_of_getElem? (i := 9) rfl), rfl⟩
theorem q_273 : Cond.code yX9_isBlockThere cX9_isBlockThere 5 (some .boolean) ∈ wU := List.mem_filter.mpr ⟨tb_4 _ (List.mem_of_getElem? (i := 156) rfl), rfl⟩
theorem q_274 : Cond.methodLink RL 32 yX8_cut ∈ wU := List.mem_filter.mpr ⟨tb_2 _ (List.mem_of_getElem? (i := 136) rfl), rfl⟩
theorem q_275 : Cond.instanceMethod yX8_cut ∈ wU := List.mem_filter.mpr ⟨tb_2 _ (List.mem_of_getElem? (i := 137) rfl), rfl⟩
theorem q_276 : Cond.selects RX8 yX8_cut yX8_cut ∈ wU := List.mem_filter.mpr ⟨tb_2 _ (List.mem_of_getElem? (i := 138) rfl), rfl⟩
theorem q_277 : Cond.code yX8_cut cX8_cut 1 (some .int) ∈ wU := List.mem_filter.mpr ⟨tb_2 _ (List.mem_of_getElem? (i := 139) rfl), rfl⟩
theorem q_278 : Cond.methodLink RL 36 yX9_cut ∈ wU := List.mem_filter.mpr ⟨tb_4 _ (List.mem_of_getElem? (i := 157) rfl), rfl⟩
theorem q_279 : Cond.instanceMethod yX9_cut ∈ wU := List.mem_filter.mpr ⟨tb_4 _ (List.mem_of_getElem? (i := 158) rfl), rfl⟩
theorem q_280 : Cond.selects RX9 yX9_cut yX9_cut ∈ wU := List.mem_filter.mpr ⟨tb_4 _ (List.mem_of_getElem? (i := 159) rfl), rfl⟩
theorem q_281 : Cond.code yX9_cut cX9_cut 1 (some .int) ∈ wU := List.mem_filter.mpr ⟨tb_4 _ (List.mem_of_getElem? (i := 160) rfl), rfl⟩
theorem q_282 : Cond.methodLink RL 37 yX8_clear ∈ wU := List.mem_filter.mpr ⟨tb_2 _ (List.mem_of_getElem? (i := 140) rfl), rfl⟩
theorem q_283 : Cond.instanceMethod yX8_clear ∈ wU := List.mem_filter.mpr ⟨tb_2 _ (List.mem_of_getElem? (i := 141) rfl), rfl⟩
theorem q_284 : Cond.selects RX8 yX8_clear yX8_clear ∈ wU := List.mem_filter.mpr ⟨tb_2 _ (List.mem_of_getElem? (i := 142) rfl), rfl⟩
theorem q_285 : Cond.code yX8_clear cX8_clear 2 (some .int) ∈ wU := List.mem_filter.mpr ⟨tb_2 _ (List.mem_of_getElem? (i := 143) rfl), rfl⟩
theorem q_286 : Cond.methodLink RL 40 yX9_clear ∈ wU := List.mem_filter.mpr ⟨tb_4 _ (List.mem_of_getElem? (i := 161) rfl), rfl⟩
theorem q_287 : Cond.instanceMethod yX9_clear ∈ wU := List.mem_filter.mpr ⟨tb_4 _ (List.mem_of_getElem? (i := 162) rfl), rfl⟩
theorem q_288 : Cond.selects RX9 yX9_clear yX9_clear ∈ wU := List.mem_filter.mpr ⟨tb_4 _ (List.mem_of_getElem? (i := 163) rfl), rfl⟩
theorem q_289 : Cond.code yX9_clear cX9_clear 2 (some .int) ∈ wU := List.mem_filter.mpr ⟨tb_4 _ (List.mem_of_getElem? (i := 164) rfl), rfl⟩
theorem q_290 : Cond.methodLink RL 41 yX8_view ∈ wU := List.mem_filter.mpr ⟨tb_2 _ (List.mem_of_getElem? (i := 144) rfl), rfl⟩
theorem q_291 : Cond.instanceMethod yX8_view ∈ wU := List.mem_filter.mpr ⟨tb_2 _ (List.mem_of_getElem? (i := 145) rfl), rfl⟩
theorem q_292 : Cond.selects RX8 yX8_view yX8_view ∈ wU := List.mem_filter.mpr ⟨tb_2 _ (List.mem_of_getElem? (i := 146) rfl), rfl⟩
theorem q_293 : Cond.code yX8_view cX8_view 4 (some .int) ∈ wU := List.mem_filter.mpr ⟨tb_2 _ (List.mem_of_getElem? (i := 147) rfl), rfl⟩
theorem q_294 : Cond.methodLink RX8 129 yX6_look ∈ wU := List.mem_filter.mpr ⟨tb_2 _ (List.mem_of_getElem? (i := 148) rfl), rfl⟩
theorem q_295 : Cond.instanceMethod yX6_look ∈ wU := List.mem_filter.mpr ⟨tb_2 _ (List.mem_of_getElem? (i := 149) rfl), rfl⟩
theorem q_296 : Cond.selects RX6 yX6_look yX6_look ∈ wU := List.mem_filter.mpr ⟨tb_2 _ (List.mem_of_getElem? (i := 150) rfl), rfl⟩
theorem q_297 : Cond.code yX6_look cX6_look 4 none ∈ wU := List.mem_filter.mpr ⟨tb_2 _ (List.mem_of_getElem? (i := 151) rfl), rfl⟩
theorem q_298 : Cond.methodLink RL 44 yX9_view ∈ wU := List.mem_filter.mpr ⟨tb_4 _ (List.mem_of_getElem? (i := 165) rfl), rfl⟩
theorem q_299 : Cond.instanceMethod yX9_view ∈ wU := List.mem_filter.mpr ⟨tb_4 _ (List.mem_of_getElem? (i := 166) rfl), rfl⟩
theorem q_300 : Cond.selects RX9 yX9_view yX9_view ∈ wU := List.mem_filter.mpr ⟨tb_4 _ (List.mem_of_getElem? (i := 167) rfl), rfl⟩
theorem q_301 : Cond.code yX9_view cX9_view 5 (some .int) ∈ wU := List.mem_filter.mpr ⟨tb_4 _ (List.mem_of_getElem? (i := 168) rfl), rfl⟩
theorem q_302 : Cond.fieldLink RX9 135 "HiddenEdgesModel" "dx" "I" ∈ wU := List.mem_filter.mpr ⟨tb_3 _ (List.mem_of_getElem? (i := 229) rfl), rfl⟩
theorem q_303 : Cond.fieldLink RX9 138 "HiddenEdgesModel" "dy" "I" ∈ wU := List.mem_filter.mpr ⟨tb_3 _ (List.mem_of_getElem? (i := 230) rfl), rfl⟩
theorem q_304 : Cond.methodLink RL 45 yX8_turn ∈ wU := List.mem_filter.mpr ⟨tb_2 _ (List.mem_of_getElem? (i := 152) rfl), rfl⟩
theorem q_305 : Cond.instanceMethod yX8_turn ∈ wU := List.mem_filter.mpr ⟨tb_2 _ (List.mem_of_getElem? (i := 153) rfl), rfl⟩
theorem q_306 : Cond.selects RX8 yX8_turn yX8_turn ∈ wU := List.mem_filter.mpr ⟨tb_2 _ (List.mem_of_getElem? (i := 154) rfl), rfl⟩
theorem q_307 : Cond.code yX8_turn cX8_turn 4 (some .int) ∈ wU := List.mem_filter.mpr ⟨tb_2 _ (List.mem_of_getElem? (i := 155) rfl), rfl⟩
theorem q_308 : Cond.methodLink RX8 133 yX4_turnPoint ∈ wU := List.mem_filter.mpr ⟨tb_2 _ (List.mem_of_getElem? (i := 156) rfl), rfl⟩
theorem q_309 : Cond.instanceMethod yX4_turnPoint ∈ wU := List.mem_filter.mpr ⟨tb_2 _ (List.mem_of_getElem? (i := 157) rfl), rfl⟩
theorem q_310 : Cond.selects RX4 yX4_turnPoint yX4_turnPoint ∈ wU := List.mem_filter.mpr ⟨tb_2 _ (List.mem_of_getElem? (i := 158) rfl), rfl⟩
theorem q_311 : Cond.code yX4_turnPoint cX4_turnPoint 6 (some .boolean) ∈ wU := List.mem_filter.mpr ⟨tb_2 _ (List.mem_of_getElem? (i := 159) rfl), rfl⟩
theorem q_312 : Cond.methodLink RL 49 yX9_turn ∈ wU := List.mem_filter.mpr ⟨tb_4 _ (List.mem_of_getElem? (i := 169) rfl), rfl⟩
theorem q_313 : Cond.instanceMethod yX9_turn ∈ wU := List.mem_filter.mpr ⟨tb_4 _ (List.mem_of_getElem? (i := 170) rfl), rfl⟩
theorem q_314 : Cond.selects RX9 yX9_turn yX9_turn ∈ wU := List.mem_filter.mpr ⟨tb_4 _ (List.mem_of_getElem? (i := 171) rfl), rfl⟩
theorem q_315 : Cond.code yX9_turn cX9_turn 7 (some .int) ∈ wU := List.mem_filter.mpr ⟨tb_4 _ (List.mem_of_getElem? (i := 172) rfl), rfl⟩
theorem q_316 : Cond.methodLink RL 50 yX8_move ∈ wU := List.mem_filter.mpr ⟨tb_2 _ (List.mem_of_getElem? (i := 160) rfl), rfl⟩
theorem q_317 : Cond.instanceMethod yX8_move ∈ wU := List.mem_filter.mpr ⟨tb_2 _ (List.mem_of_getElem? (i := 161) rfl), rfl⟩
theorem q_318 : Cond.selects RX8 yX8_move yX8_move ∈ wU := List.mem_filter.mpr ⟨tb_2 _ (List.mem_of_getElem? (i := 162) rfl), rfl⟩
theorem q_319 : Cond.code yX8_move cX8_move 5 (some .int) ∈ wU := List.mem_filter.mpr ⟨tb_2 _ (List.mem_of_getElem? (i := 163) rfl), rfl⟩
theorem q_320 : Cond.fieldLink RX8 136 "HiddenEdges$Mesh" "x" "[I" ∈ wU := List.mem_filter.mpr ⟨tb_1 _ (List.mem_of_getElem? (i := 30) rfl), rfl⟩
theorem q_321 : Cond.fieldLink RX8 139 "HiddenEdges$Mesh" "y" "[I" ∈ wU := List.mem_filter.mpr ⟨tb_1 _ (List.mem_of_getElem? (i := 33) rfl), rfl⟩
theorem q_322 : Cond.fieldLink RX8 142 "HiddenEdges$Mesh" "z" "[I" ∈ wU := List.mem_filter.mpr ⟨tb_1 _ (List.mem_of_getElem? (i := 36) rfl), rfl⟩
theorem q_323 : Cond.methodLink RX8 145 yX4_put ∈ wU := List.mem_filter.mpr ⟨tb_2 _ (List.mem_of_getElem? (i := 164) rfl), rfl⟩
theorem q_324 : Cond.methodLink RL 53 yX9_move ∈ wU := List.mem_filter.mpr ⟨tb_4 _ (List.mem_of_getElem? (i := 173) rfl), rfl⟩
theorem q_325 : Cond.instanceMethod yX9_move ∈ wU := List.mem_filter.mpr ⟨tb_4 _ (List.mem_of_getElem? (i := 174) rfl), rfl⟩
theorem q_326 : Cond.selects RX9 yX9_move yX9_move ∈ wU := List.mem_filter.mpr ⟨tb_4 _ (List.mem_of_getElem? (i := 175) rfl), rfl⟩
theorem q_327 : Cond.code yX9_move cX9_move 5 (some .int) ∈ wU := List.mem_filter.mpr ⟨tb_4 _ (List.mem_of_getElem? (i := 176) rfl), rfl⟩
theorem q_328 : Cond.methodLink RL 54 yX8_ofPoint ∈ wU := List.mem_filter.mpr ⟨tb_2 _ (List.mem_of_getElem? (i := 165) rfl), rfl⟩
theorem q_329 : Cond.instanceMethod yX8_ofPoint ∈ wU := List.mem_filter.mpr ⟨tb_2 _ (List.mem_of_getElem? (i := 166) rfl), rfl⟩
theorem q_330 : Cond.selects RX8 yX8_ofPoint yX8_ofPoint ∈ wU := List.mem_filter.mpr ⟨tb_2 _ (List.mem_of_getElem? (i := 167) rfl), rfl⟩
theorem q_331 : Cond.code yX8_ofPoint cX8_ofPoint 3 (some .int) ∈ wU := List.mem_filter.mpr ⟨tb_2 _ (List.mem_of_getElem? (i := 168) rfl), rfl⟩
theorem q_332 : Cond.methodLink RX8 149 yX8_settle ∈ wU := List.mem_filter.mpr ⟨tb_2 _ (List.mem_of_getElem? (i := 169) rfl), rfl⟩
theorem q_333 : Cond.instanceMethod yX8_settle ∈ wU := List.mem_filter.mpr ⟨tb_2 _ (List.mem_of_getElem? (i := 171) rfl), rfl⟩
theorem q_334 : Cond.selects RX8 yX8_settle yX8_settle ∈ wU := List.mem_filter.mpr ⟨pb_1 (⟨"HiddenEdges", "settle", "(I)V"⟩, 10) (List.mem_of_getElem? (i := 2) rfl), rfl⟩
theorem q_335 : Cond.code yX8_settle cX8_settle 2 none ∈ wU := List.mem_filter.mpr ⟨tb_2 _ (List.mem_of_getElem? (i := 172) rfl), rfl⟩
theorem q_336 : Cond.methodLink RX8 311 yX6_rebuild ∈ wU := List.mem_filter.mpr ⟨tb_2 _ (List.mem_of_getElem? (i := 173) rfl), rfl⟩
theorem q_337 : Cond.instanceMethod yX6_rebuild ∈ wU := List.mem_filter.mpr ⟨tb_2 _ (List.mem_of_getElem? (i := 174) rfl), rfl⟩
theorem q_338 : Cond.selects RX6 yX6_rebuild yX6_rebuild ∈ wU := List.mem_filter.mpr ⟨tb_2 _ (List.mem_of_getElem? (i := 175) rfl), rfl⟩
theorem q_339 : Cond.code yX6_rebuild cX6_rebuild 5 none ∈ wU := List.mem_filter.mpr ⟨tb_2 _ (List.mem_of_getElem? (i := 176) rfl), rfl⟩
theorem q_340 : Cond.fieldLink RX6 37 "HiddenEdges$Mesh" "faces" "I" ∈ wU := List.mem_filter.mpr ⟨tb_1 _ (List.mem_of_getElem? (i := 43) rfl), rfl⟩
theorem q_341 : Cond.fieldLink RX6 42 "HiddenEdges$Sight" "faces" "I" ∈ wU := List.mem_filter.mpr ⟨tb_1 _ (List.mem_of_getElem? (i := 76) rfl), rfl⟩
theorem q_342 : Cond.fieldLink RX6 43 "HiddenEdges$Mesh" "points" "I" ∈ wU := List.mem_filter.mpr ⟨tb_1 _ (List.mem_of_getElem? (i := 41) rfl), rfl⟩
theorem q_343 : Cond.fieldLink RX6 46 "HiddenEdges$Mesh" "x" "[I" ∈ wU := List.mem_filter.mpr ⟨tb_1 _ (List.mem_of_getElem? (i := 29) rfl), rfl⟩
theorem q_344 : Cond.fieldLink RX6 49 "HiddenEdges$Mesh" "y" "[I" ∈ wU := List.mem_filter.mpr ⟨tb_1 _ (List.mem_of_getElem? (i := 32) rfl), rfl⟩
theorem q_345 : Cond.fieldLink RX6 52 "HiddenEdges$Mesh" "z" "[I" ∈ wU := List.mem_filter.mpr ⟨tb_1 _ (List.mem_of_getElem? (i := 35) rfl), rfl⟩
theorem q_346 : Cond.methodLink RX6 55 yX6_volumeOf ∈ wU := List.mem_filter.mpr ⟨tb_2 _ (List.mem_of_getElem? (i := 177) rfl), rfl⟩
theorem q_347 : Cond.instanceMethod yX6_volumeOf ∈ wU := List.mem_filter.mpr ⟨tb_2 _ (List.mem_of_getElem? (i := 179) rfl), rfl⟩
theorem q_348 : Cond.selects RX6 yX6_volumeOf yX6_volumeOf ∈ wU := List.mem_filter.mpr ⟨pb_1 (⟨"HiddenEdges$Sight", "volumeOf", "(LHiddenEdges$Mesh;II)I"⟩, 9) (List.mem_of_getElem? (i := 3) rfl), rfl⟩
theorem q_349 : Cond.code yX6_volumeOf cX6_volumeOf 7 (some .int) ∈ wU := List.mem_filter.mpr ⟨tb_2 _ (List.mem_of_getElem? (i := 180) rfl), rfl⟩
theorem q_350 : Cond.methodLink RX6 59 yX6_fillNormal ∈ wU := List.mem_filter.mpr ⟨tb_2 _ (List.mem_of_getElem? (i := 181) rfl), rfl⟩
theorem q_351 : Cond.instanceMethod yX6_fillNormal ∈ wU := List.mem_filter.mpr ⟨tb_2 _ (List.mem_of_getElem? (i := 183) rfl), rfl⟩
theorem q_352 : Cond.selects RX6 yX6_fillNormal yX6_fillNormal ∈ wU := List.mem_filter.mpr ⟨pb_1 (⟨"HiddenEdges$Sight", "fillNormal", "(LHiddenEdges$Mesh;I)V"⟩, 9) (List.mem_of_getElem? (i := 4) rfl), rfl⟩
theorem q_353 : Cond.code yX6_fillNormal cX6_fillNormal 6 none ∈ wU := List.mem_filter.mpr ⟨tb_2 _ (List.mem_of_getElem? (i := 184) rfl), rfl⟩
theorem q_354 : Cond.methodLink RX6 63 yX4_cornerOf ∈ wU := List.mem_filter.mpr ⟨tb_2 _ (List.mem_of_getElem? (i := 185) rfl), rfl⟩
theorem q_355 : Cond.methodLink RX6 75 yX4_area ∈ wU := List.mem_filter.mpr ⟨tb_2 _ (List.mem_of_getElem? (i := 186) rfl), rfl⟩
theorem q_356 : Cond.methodLink RX6 67 yX6_turnOf ∈ wU := List.mem_filter.mpr ⟨tb_2 _ (List.mem_of_getElem? (i := 187) rfl), rfl⟩
theorem q_357 : Cond.instanceMethod yX6_turnOf ∈ wU := List.mem_filter.mpr ⟨tb_2 _ (List.mem_of_getElem? (i := 188) rfl), rfl⟩
theorem q_358 : Cond.selects RX6 yX6_turnOf yX6_turnOf ∈ wU := List.mem_filter.mpr ⟨tb_2 _ (List.mem_of_getElem? (i := 189) rfl), rfl⟩
theorem q_359 : Cond.code yX6_turnOf cX6_turnOf 4 (some .int) ∈ wU := List.mem_filter.mpr ⟨tb_2 _ (List.mem_of_getElem? (i := 190) rfl), rfl⟩
theorem q_360 : Cond.methodLink RX6 71 yX6_fillMargins ∈ wU := List.mem_filter.mpr ⟨tb_2 _ (List.mem_of_getElem? (i := 191) rfl), rfl⟩
theorem q_361 : Cond.instanceMethod yX6_fillMargins ∈ wU := List.mem_filter.mpr ⟨tb_2 _ (List.mem_of_getElem? (i := 193) rfl), rfl⟩
theorem q_362 : Cond.selects RX6 yX6_fillMargins yX6_fillMargins ∈ wU := List.mem_filter.mpr ⟨pb_1 (⟨"HiddenEdges$Sight", "fillMargins", "(LHiddenEdges$Mesh;II)V"⟩, 9) (List.mem_of_getElem? (i := 5) rfl), rfl⟩
theorem q_363 : Cond.code yX6_fillMargins cX6_fillMargins 9 none ∈ wU := List.mem_filter.mpr ⟨tb_2 _ (List.mem_of_getElem? (i := 194) rfl), rfl⟩
theorem q_364 : Cond.methodLink RX6 79 yX6_rowOf ∈ wU := List.mem_filter.mpr ⟨tb_2 _ (List.mem_of_getElem? (i := 195) rfl), rfl⟩
theorem q_365 : Cond.static yX6_rowOf ∈ wU := List.mem_filter.mpr ⟨tb_2 _ (List.mem_of_getElem? (i := 196) rfl), rfl⟩
theorem q_366 : Cond.code yX6_rowOf cX6_rowOf 2 (some .int) ∈ wU := List.mem_filter.mpr ⟨tb_2 _ (List.mem_of_getElem? (i := 197) rfl), rfl⟩
theorem q_367 : Cond.methodLink RX6 82 yX6_depth ∈ wU := List.mem_filter.mpr ⟨tb_2 _ (List.mem_of_getElem? (i := 198) rfl), rfl⟩
theorem q_368 : Cond.instanceMethod yX6_depth ∈ wU := List.mem_filter.mpr ⟨tb_2 _ (List.mem_of_getElem? (i := 199) rfl), rfl⟩
theorem q_369 : Cond.selects RX6 yX6_depth yX6_depth ∈ wU := List.mem_filter.mpr ⟨tb_2 _ (List.mem_of_getElem? (i := 200) rfl), rfl⟩
theorem q_370 : Cond.code yX6_depth cX6_depth 5 (some .int) ∈ wU := List.mem_filter.mpr ⟨tb_2 _ (List.mem_of_getElem? (i := 201) rfl), rfl⟩
theorem q_371 : Cond.methodLink RX8 315 yX1_rebuild ∈ wU := List.mem_filter.mpr ⟨tb_2 _ (List.mem_of_getElem? (i := 202) rfl), rfl⟩
theorem q_372 : Cond.instanceMethod yX1_rebuild ∈ wU := List.mem_filter.mpr ⟨tb_2 _ (List.mem_of_getElem? (i := 203) rfl), rfl⟩
theorem q_373 : Cond.selects RX1 yX1_rebuild yX1_rebuild ∈ wU := List.mem_filter.mpr ⟨tb_2 _ (List.mem_of_getElem? (i := 204) rfl), rfl⟩
theorem q_374 : Cond.code yX1_rebuild cX1_rebuild 5 none ∈ wU := List.mem_filter.mpr ⟨tb_2 _ (List.mem_of_getElem? (i := 205) rfl), rfl⟩
theorem q_375 : Cond.fieldLink RX1 40 "HiddenEdges$Mesh" "faces" "I" ∈ wU := List.mem_filter.mpr ⟨tb_1 _ (List.mem_of_getElem? (i := 46) rfl), rfl⟩
theorem q_376 : Cond.fieldLink RX1 30 "HiddenEdges$Edges" "count" "I" ∈ wU := List.mem_filter.mpr ⟨tb_1 _ (List.mem_of_getElem? (i := 128) rfl), rfl⟩
theorem q_377 : Cond.fieldLink RX1 53 "HiddenEdges$Mesh" "points" "I" ∈ wU := List.mem_filter.mpr ⟨tb_1 _ (List.mem_of_getElem? (i := 42) rfl), rfl⟩
theorem q_378 : Cond.methodLink RX1 34 yJ7_fill_53178 ∈ wU := List.mem_filter.mpr ⟨tb_2 _ (List.mem_of_getElem? (i := 206) rfl), rfl⟩
theorem q_379 : Cond.static yJ7_fill_53178 ∈ wU := List.mem_filter.mpr ⟨tb_2 _ (List.mem_of_getElem? (i := 207) rfl), rfl⟩
theorem q_380 : Cond.initialized RJ7 ∈ wU := List.mem_filter.mpr ⟨tb_1 _ (List.mem_of_getElem? (i := 10) rfl), rfl⟩
theorem q_381 : Cond.code yJ7_fill_53178 cJ7_fill_53178 4 none ∈ wU := List.mem_filter.mpr ⟨tb_2 _ (List.mem_of_getElem? (i := 208) rfl), rfl⟩
theorem q_382 : Cond.methodLink RX1 45 yX4_cornerOf ∈ wU := List.mem_filter.mpr ⟨tb_2 _ (List.mem_of_getElem? (i := 209) rfl), rfl⟩
theorem q_383 : Cond.methodLink RX1 49 yX1_share ∈ wU := List.mem_filter.mpr ⟨tb_2 _ (List.mem_of_getElem? (i := 210) rfl), rfl⟩
theorem q_384 : Cond.instanceMethod yX1_share ∈ wU := List.mem_filter.mpr ⟨tb_2 _ (List.mem_of_getElem? (i := 212) rfl), rfl⟩
theorem q_385 : Cond.selects RX1 yX1_share yX1_share ∈ wU := List.mem_filter.mpr ⟨pb_1 (⟨"HiddenEdges$Edges", "share", "(II)V"⟩, 7) (List.mem_of_getElem? (i := 6) rfl), rfl⟩
theorem q_386 : Cond.code yX1_share cX1_share 3 none ∈ wU := List.mem_filter.mpr ⟨tb_2 _ (List.mem_of_getElem? (i := 213) rfl), rfl⟩
theorem q_387 : Cond.methodLink RX1 67 Lib.Math.min.name ∈ wU := List.mem_filter.mpr ⟨tb_2 _ (List.mem_of_getElem? (i := 214) rfl), rfl⟩
theorem q_388 : Cond.static Lib.Math.min.name ∈ wU := List.mem_filter.mpr ⟨tb_2 _ (List.mem_of_getElem? (i := 215) rfl), rfl⟩
theorem q_389 : Cond.initialized "java/lang/Math" ∈ wU := List.mem_filter.mpr ⟨tb_1 _ (List.mem_of_getElem? (i := 11) rfl), rfl⟩
theorem q_390 : Cond.code Lib.Math.min.name Lib.Math.min.code 2 (some .int) ∈ wU := List.mem_filter.mpr ⟨tb_2 _ (List.mem_of_getElem? (i := 216) rfl), rfl⟩
theorem q_391 : Cond.methodLink RX1 72 Lib.Math.max.name ∈ wU := List.mem_filter.mpr ⟨tb_2 _ (List.mem_of_getElem? (i := 217) rfl), rfl⟩
theorem q_392 : Cond.static Lib.Math.max.name ∈ wU := List.mem_filter.mpr ⟨tb_2 _ (List.mem_of_getElem? (i := 218) rfl), rfl⟩
theorem q_393 : Cond.code Lib.Math.max.name Lib.Math.max.code 2 (some .int) ∈ wU := List.mem_filter.mpr ⟨tb_2 _ (List.mem_of_getElem? (i := 219) rfl), rfl⟩
theorem q_394 : Cond.methodLink RX1 56 yX4_hasWire ∈ wU := List.mem_filter.mpr ⟨tb_2 _ (List.mem_of_getElem? (i := 220) rfl), rfl⟩
theorem q_395 : Cond.methodLink RX1 60 yX1_append ∈ wU := List.mem_filter.mpr ⟨tb_2 _ (List.mem_of_getElem? (i := 221) rfl), rfl⟩
theorem q_396 : Cond.instanceMethod yX1_append ∈ wU := List.mem_filter.mpr ⟨tb_2 _ (List.mem_of_getElem? (i := 223) rfl), rfl⟩
theorem q_397 : Cond.selects RX1 yX1_append yX1_append ∈ wU := List.mem_filter.mpr ⟨pb_1 (⟨"HiddenEdges$Edges", "append", "(II)V"⟩, 7) (List.mem_of_getElem? (i := 7) rfl), rfl⟩
theorem q_398 : Cond.code yX1_append cX1_append 3 none ∈ wU := List.mem_filter.mpr ⟨tb_2 _ (List.mem_of_getElem? (i := 224) rfl), rfl⟩
theorem q_399 : Cond.methodLink RX1 63 yX1_sortOf ∈ wU := List.mem_filter.mpr ⟨tb_2 _ (List.mem_of_getElem? (i := 225) rfl), rfl⟩
theorem q_400 : Cond.instanceMethod yX1_sortOf ∈ wU := List.mem_filter.mpr ⟨tb_2 _ (List.mem_of_getElem? (i := 227) rfl), rfl⟩
theorem q_401 : Cond.selects RX1 yX1_sortOf yX1_sortOf ∈ wU := List.mem_filter.mpr ⟨pb_1 (⟨"HiddenEdges$Edges", "sortOf", "(LHiddenEdges$Mesh;LHiddenEdges$Sight;I)I"⟩, 7) (List.mem_of_getElem? (i := 8) rfl), rfl⟩
theorem q_402 : Cond.code yX1_sortOf cX1_sortOf 6 (some .int) ∈ wU := List.mem_filter.mpr ⟨tb_2 _ (List.mem_of_getElem? (i := 228) rfl), rfl⟩
theorem q_403 : Cond.fieldLink RX1 83 "HiddenEdges$Sight" "swing" "[I" ∈ wU := List.mem_filter.mpr ⟨tb_1 _ (List.mem_of_getElem? (i := 84) rfl), rfl⟩
theorem q_404 : Cond.methodLink RX1 75 yX4_faceWith ∈ wU := List.mem_filter.mpr ⟨tb_2 _ (List.mem_of_getElem? (i := 229) rfl), rfl⟩
theorem q_405 : Cond.instanceMethod yX4_faceWith ∈ wU := List.mem_filter.mpr ⟨tb_2 _ (List.mem_of_getElem? (i := 230) rfl), rfl⟩
theorem q_406 : Cond.selects RX4 yX4_faceWith yX4_faceWith ∈ wU := List.mem_filter.mpr ⟨tb_2 _ (List.mem_of_getElem? (i := 231) rfl), rfl⟩
theorem q_407 : Cond.code yX4_faceWith cX4_faceWith 5 (some .int) ∈ wU := List.mem_filter.mpr ⟨tb_2 _ (List.mem_of_getElem? (i := 232) rfl), rfl⟩
theorem q_408 : Cond.methodLink RX4 53 Lib.Math.max.name ∈ wU := List.mem_filter.mpr ⟨tb_2 _ (List.mem_of_getElem? (i := 233) rfl), rfl⟩
theorem q_409 : Cond.methodLink RX1 79 yX1_inOnePlane ∈ wU := List.mem_filter.mpr ⟨tb_2 _ (List.mem_of_getElem? (i := 234) rfl), rfl⟩
theorem q_410 : Cond.static yX1_inOnePlane ∈ wU := List.mem_filter.mpr ⟨tb_2 _ (List.mem_of_getElem? (i := 235) rfl), rfl⟩
theorem q_411 : Cond.code yX1_inOnePlane cX1_inOnePlane 5 (some .boolean) ∈ wU := List.mem_filter.mpr ⟨tb_2 _ (List.mem_of_getElem? (i := 236) rfl), rfl⟩
theorem q_412 : Cond.methodLink RX1 88 yX6_depth ∈ wU := List.mem_filter.mpr ⟨tb_2 _ (List.mem_of_getElem? (i := 237) rfl), rfl⟩
theorem q_413 : Cond.methodLink RX8 318 yX0_unload ∈ wU := List.mem_filter.mpr ⟨tb_2 _ (List.mem_of_getElem? (i := 238) rfl), rfl⟩
theorem q_414 : Cond.instanceMethod yX0_unload ∈ wU := List.mem_filter.mpr ⟨tb_2 _ (List.mem_of_getElem? (i := 239) rfl), rfl⟩
theorem q_415 : Cond.selects RX0 yX0_unload yX0_unload ∈ wU := List.mem_filter.mpr ⟨tb_3 _ (List.mem_of_getElem? (i := 0) rfl), rfl⟩
theorem q_416 : Cond.code yX0_unload cX0_unload 1 none ∈ wU := List.mem_filter.mpr ⟨tb_3 _ (List.mem_of_getElem? (i := 1) rfl), rfl⟩
theorem q_417 : Cond.methodLink RX8 321 yX5_rebuild ∈ wU := List.mem_filter.mpr ⟨tb_3 _ (List.mem_of_getElem? (i := 2) rfl), rfl⟩
theorem q_418 : Cond.instanceMethod yX5_rebuild ∈ wU := List.mem_filter.mpr ⟨tb_3 _ (List.mem_of_getElem? (i := 3) rfl), rfl⟩
theorem q_419 : Cond.selects RX5 yX5_rebuild yX5_rebuild ∈ wU := List.mem_filter.mpr ⟨tb_3 _ (List.mem_of_getElem? (i := 4) rfl), rfl⟩
theorem q_420 : Cond.code yX5_rebuild cX5_rebuild 6 none ∈ wU := List.mem_filter.mpr ⟨tb_3 _ (List.mem_of_getElem? (i := 5) rfl), rfl⟩
theorem q_421 : Cond.fieldLink RX5 19 "HiddenEdges$Pieces" "all" "I" ∈ wU := List.mem_filter.mpr ⟨tb_1 _ (List.mem_of_getElem? (i := 195) rfl), rfl⟩
theorem q_422 : Cond.fieldLink RX5 23 "HiddenEdges$Pieces" "allVisible" "I" ∈ wU := List.mem_filter.mpr ⟨tb_1 _ (List.mem_of_getElem? (i := 197) rfl), rfl⟩
theorem q_423 : Cond.fieldLink RX5 26 "HiddenEdges$Pieces" "greatest" "I" ∈ wU := List.mem_filter.mpr ⟨tb_1 _ (List.mem_of_getElem? (i := 199) rfl), rfl⟩
theorem q_424 : Cond.fieldLink RX5 29 "HiddenEdges$Edges" "count" "I" ∈ wU := List.mem_filter.mpr ⟨tb_1 _ (List.mem_of_getElem? (i := 129) rfl), rfl⟩
theorem q_425 : Cond.fieldLink RX5 43 "HiddenEdges$Cuts" "visible" "J" ∈ wU := List.mem_filter.mpr ⟨tb_1 _ (List.mem_of_getElem? (i := 164) rfl), rfl⟩
theorem q_426 : Cond.fieldLink RX5 52 "HiddenEdges$Cuts" "quantity" "[I" ∈ wU := List.mem_filter.mpr ⟨tb_1 _ (List.mem_of_getElem? (i := 162) rfl), rfl⟩
theorem q_427 : Cond.methodLink RX5 55 Lib.Math.max.name ∈ wU := List.mem_filter.mpr ⟨tb_3 _ (List.mem_of_getElem? (i := 57) rfl), rfl⟩
theorem q_428 : Cond.methodLink RX5 33 yX0_load ∈ wU := List.mem_filter.mpr ⟨tb_3 _ (List.mem_of_getElem? (i := 6) rfl), rfl⟩
theorem q_429 : Cond.instanceMethod yX0_load ∈ wU := List.mem_filter.mpr ⟨tb_3 _ (List.mem_of_getElem? (i := 7) rfl), rfl⟩
theorem q_430 : Cond.selects RX0 yX0_load yX0_load ∈ wU := List.mem_filter.mpr ⟨tb_3 _ (List.mem_of_getElem? (i := 8) rfl), rfl⟩
theorem q_431 : Cond.code yX0_load cX0_load 5 none ∈ wU := List.mem_filter.mpr ⟨tb_3 _ (List.mem_of_getElem? (i := 9) rfl), rfl⟩
theorem q_432 : Cond.constantLong RX0 34 (4294967297) ∈ wU := List.mem_filter.mpr ⟨tb_3 _ (List.mem_of_getElem? (i := 10) rfl), rfl⟩
theorem q_433 : Cond.fieldLink RX0 29 "HiddenEdges$Cuts" "count" "I" ∈ wU := List.mem_filter.mpr ⟨tb_1 _ (List.mem_of_getElem? (i := 158) rfl), rfl⟩
theorem q_434 : Cond.fieldLink RX0 36 "HiddenEdges$Cuts" "stretches" "I" ∈ wU := List.mem_filter.mpr ⟨tb_1 _ (List.mem_of_getElem? (i := 156) rfl), rfl⟩
theorem q_435 : Cond.fieldLink RX0 39 "HiddenEdges$Sight" "faces" "I" ∈ wU := List.mem_filter.mpr ⟨tb_1 _ (List.mem_of_getElem? (i := 77) rfl), rfl⟩
theorem q_436 : Cond.fieldLink RX0 44 "HiddenEdges$Edges" "low" "[I" ∈ wU := List.mem_filter.mpr ⟨tb_1 _ (List.mem_of_getElem? (i := 115) rfl), rfl⟩
theorem q_437 : Cond.fieldLink RX0 49 "HiddenEdges$Edges" "high" "[I" ∈ wU := List.mem_filter.mpr ⟨tb_1 _ (List.mem_of_getElem? (i := 120) rfl), rfl⟩
theorem q_438 : Cond.fieldLink RX0 59 "HiddenEdges$Edges" "sort" "[I" ∈ wU := List.mem_filter.mpr ⟨tb_1 _ (List.mem_of_getElem? (i := 126) rfl), rfl⟩
theorem q_439 : Cond.fieldLink RX0 66 "HiddenEdges$Cuts" "visible" "J" ∈ wU := List.mem_filter.mpr ⟨tb_1 _ (List.mem_of_getElem? (i := 165) rfl), rfl⟩
theorem q_440 : Cond.methodLink RX0 52 yX0_addStretch ∈ wU := List.mem_filter.mpr ⟨tb_3 _ (List.mem_of_getElem? (i := 11) rfl), rfl⟩
theorem q_441 : Cond.instanceMethod yX0_addStretch ∈ wU := List.mem_filter.mpr ⟨tb_3 _ (List.mem_of_getElem? (i := 13) rfl), rfl⟩
theorem q_442 : Cond.selects RX0 yX0_addStretch yX0_addStretch ∈ wU := List.mem_filter.mpr ⟨pb_1 (⟨"HiddenEdges$Cuts", "addStretch", "(LHiddenEdges$Sight;III)V"⟩, 8) (List.mem_of_getElem? (i := 9) rfl), rfl⟩
theorem q_443 : Cond.code yX0_addStretch cX0_addStretch 9 none ∈ wU := List.mem_filter.mpr ⟨tb_3 _ (List.mem_of_getElem? (i := 14) rfl), rfl⟩
theorem q_444 : Cond.methodLink RX0 70 yX6_stretchEnd ∈ wU := List.mem_filter.mpr ⟨tb_3 _ (List.mem_of_getElem? (i := 15) rfl), rfl⟩
theorem q_445 : Cond.instanceMethod yX6_stretchEnd ∈ wU := List.mem_filter.mpr ⟨tb_3 _ (List.mem_of_getElem? (i := 16) rfl), rfl⟩
theorem q_446 : Cond.selects RX6 yX6_stretchEnd yX6_stretchEnd ∈ wU := List.mem_filter.mpr ⟨tb_3 _ (List.mem_of_getElem? (i := 17) rfl), rfl⟩
theorem q_447 : Cond.code yX6_stretchEnd cX6_stretchEnd 13 (some .long) ∈ wU := List.mem_filter.mpr ⟨tb_3 _ (List.mem_of_getElem? (i := 18) rfl), rfl⟩
theorem q_448 : Cond.constantLong RX6 99 (4294967297) ∈ wU := List.mem_filter.mpr ⟨tb_3 _ (List.mem_of_getElem? (i := 19) rfl), rfl⟩
theorem q_449 : Cond.methodLink RX6 87 yX2_of ∈ wU := List.mem_filter.mpr ⟨tb_3 _ (List.mem_of_getElem? (i := 20) rfl), rfl⟩
theorem q_450 : Cond.static yX2_of ∈ wU := List.mem_filter.mpr ⟨tb_3 _ (List.mem_of_getElem? (i := 21) rfl), rfl⟩
theorem q_451 : Cond.initialized RX2 ∈ wU := List.mem_filter.mpr ⟨tb_1 _ (List.mem_of_getElem? (i := 12) rfl), rfl⟩
theorem q_452 : Cond.code yX2_of cX2_of 2 (some .long) ∈ wU := List.mem_filter.mpr ⟨tb_3 _ (List.mem_of_getElem? (i := 22) rfl), rfl⟩
theorem q_453 : Cond.methodLink RX6 91 yX2_less ∈ wU := List.mem_filter.mpr ⟨tb_3 _ (List.mem_of_getElem? (i := 23) rfl), rfl⟩
theorem q_454 : Cond.static yX2_less ∈ wU := List.mem_filter.mpr ⟨tb_3 _ (List.mem_of_getElem? (i := 24) rfl), rfl⟩
theorem q_455 : Cond.code yX2_less cX2_less 4 (some .boolean) ∈ wU := List.mem_filter.mpr ⟨tb_3 _ (List.mem_of_getElem? (i := 25) rfl), rfl⟩
theorem q_456 : Cond.methodLink RX6 95 yX2_lowest ∈ wU := List.mem_filter.mpr ⟨tb_3 _ (List.mem_of_getElem? (i := 26) rfl), rfl⟩
theorem q_457 : Cond.static yX2_lowest ∈ wU := List.mem_filter.mpr ⟨tb_3 _ (List.mem_of_getElem? (i := 27) rfl), rfl⟩
theorem q_458 : Cond.code yX2_lowest cX2_lowest 8 (some .long) ∈ wU := List.mem_filter.mpr ⟨tb_3 _ (List.mem_of_getElem? (i := 28) rfl), rfl⟩
theorem q_459 : Cond.methodLink RX0 74 yX6_stretchBegin ∈ wU := List.mem_filter.mpr ⟨tb_3 _ (List.mem_of_getElem? (i := 29) rfl), rfl⟩
theorem q_460 : Cond.instanceMethod yX6_stretchBegin ∈ wU := List.mem_filter.mpr ⟨tb_3 _ (List.mem_of_getElem? (i := 30) rfl), rfl⟩
theorem q_461 : Cond.selects RX6 yX6_stretchBegin yX6_stretchBegin ∈ wU := List.mem_filter.mpr ⟨tb_3 _ (List.mem_of_getElem? (i := 31) rfl), rfl⟩
theorem q_462 : Cond.code yX6_stretchBegin cX6_stretchBegin 13 (some .long) ∈ wU := List.mem_filter.mpr ⟨tb_3 _ (List.mem_of_getElem? (i := 32) rfl), rfl⟩
theorem q_463 : Cond.methodLink RX0 77 yX2_less ∈ wU := List.mem_filter.mpr ⟨tb_3 _ (List.mem_of_getElem? (i := 33) rfl), rfl⟩
theorem q_464 : Cond.methodLink RX0 81 yX0_insert ∈ wU := List.mem_filter.mpr ⟨tb_3 _ (List.mem_of_getElem? (i := 34) rfl), rfl⟩
theorem q_465 : Cond.instanceMethod yX0_insert ∈ wU := List.mem_filter.mpr ⟨tb_3 _ (List.mem_of_getElem? (i := 36) rfl), rfl⟩
theorem q_466 : Cond.selects RX0 yX0_insert yX0_insert ∈ wU := List.mem_filter.mpr ⟨pb_1 (⟨"HiddenEdges$Cuts", "insert", "(J)V"⟩, 8) (List.mem_of_getElem? (i := 10) rfl), rfl⟩
theorem q_467 : Cond.code yX0_insert cX0_insert 5 none ∈ wU := List.mem_filter.mpr ⟨tb_3 _ (List.mem_of_getElem? (i := 37) rfl), rfl⟩
theorem q_468 : Cond.methodLink RX0 56 yX0_countQuantities ∈ wU := List.mem_filter.mpr ⟨tb_3 _ (List.mem_of_getElem? (i := 38) rfl), rfl⟩
theorem q_469 : Cond.instanceMethod yX0_countQuantities ∈ wU := List.mem_filter.mpr ⟨tb_3 _ (List.mem_of_getElem? (i := 40) rfl), rfl⟩
theorem q_470 : Cond.selects RX0 yX0_countQuantities yX0_countQuantities ∈ wU := List.mem_filter.mpr ⟨pb_1 (⟨"HiddenEdges$Cuts", "countQuantities", "()V"⟩, 8) (List.mem_of_getElem? (i := 11) rfl), rfl⟩
theorem q_471 : Cond.code yX0_countQuantities cX0_countQuantities 4 none ∈ wU := List.mem_filter.mpr ⟨tb_3 _ (List.mem_of_getElem? (i := 41) rfl), rfl⟩
theorem q_472 : Cond.methodLink RX0 85 yJ7_fill_53178 ∈ wU := List.mem_filter.mpr ⟨tb_3 _ (List.mem_of_getElem? (i := 42) rfl), rfl⟩
theorem q_473 : Cond.methodLink RX0 62 yX0_bare ∈ wU := List.mem_filter.mpr ⟨tb_3 _ (List.mem_of_getElem? (i := 43) rfl), rfl⟩
theorem q_474 : Cond.instanceMethod yX0_bare ∈ wU := List.mem_filter.mpr ⟨tb_3 _ (List.mem_of_getElem? (i := 45) rfl), rfl⟩
theorem q_475 : Cond.selects RX0 yX0_bare yX0_bare ∈ wU := List.mem_filter.mpr ⟨pb_1 (⟨"HiddenEdges$Cuts", "bare", "()J"⟩, 8) (List.mem_of_getElem? (i := 12) rfl), rfl⟩
theorem q_476 : Cond.code yX0_bare cX0_bare 4 (some .long) ∈ wU := List.mem_filter.mpr ⟨tb_3 _ (List.mem_of_getElem? (i := 46) rfl), rfl⟩
theorem q_477 : Cond.methodLink RX5 39 yX0_pieceCount ∈ wU := List.mem_filter.mpr ⟨tb_3 _ (List.mem_of_getElem? (i := 47) rfl), rfl⟩
theorem q_478 : Cond.instanceMethod yX0_pieceCount ∈ wU := List.mem_filter.mpr ⟨tb_3 _ (List.mem_of_getElem? (i := 48) rfl), rfl⟩
theorem q_479 : Cond.selects RX0 yX0_pieceCount yX0_pieceCount ∈ wU := List.mem_filter.mpr ⟨tb_3 _ (List.mem_of_getElem? (i := 49) rfl), rfl⟩
theorem q_480 : Cond.code yX0_pieceCount cX0_pieceCount 1 (some .int) ∈ wU := List.mem_filter.mpr ⟨tb_3 _ (List.mem_of_getElem? (i := 50) rfl), rfl⟩
theorem q_481 : Cond.methodLink RX5 46 yJ13_bitCount_95d88 ∈ wU := List.mem_filter.mpr ⟨tb_3 _ (List.mem_of_getElem? (i := 51) rfl), rfl⟩
theorem q_482 : Cond.static yJ13_bitCount_95d88 ∈ wU := List.mem_filter.mpr ⟨tb_3 _ (List.mem_of_getElem? (i := 52) rfl), rfl⟩
theorem q_483 : Cond.initialized RJ13 ∈ wU := List.mem_filter.mpr ⟨tb_1 _ (List.mem_of_getElem? (i := 13) rfl), rfl⟩
theorem q_484 : Cond.code yJ13_bitCount_95d88 cJ13_bitCount_95d88 2 (some .int) ∈ wU := List.mem_filter.mpr ⟨tb_3 _ (List.mem_of_getElem? (i := 53) rfl), rfl⟩
theorem q_485 : Cond.constantLong RJ13 314 (6148914691236517205) ∈ wU := List.mem_filter.mpr ⟨tb_3 _ (List.mem_of_getElem? (i := 54) rfl), rfl⟩
theorem q_486 : Cond.constantLong RJ13 316 (3689348814741910323) ∈ wU := List.mem_filter.mpr ⟨tb_3 _ (List.mem_of_getElem? (i := 55) rfl), rfl⟩
theorem q_487 : Cond.constantLong RJ13 318 (1085102592571150095) ∈ wU := List.mem_filter.mpr ⟨tb_3 _ (List.mem_of_getElem? (i := 56) rfl), rfl⟩
theorem q_488 : Cond.methodLink RX8 324 yX7_rebuild ∈ wU := List.mem_filter.mpr ⟨tb_3 _ (List.mem_of_getElem? (i := 58) rfl), rfl⟩
theorem q_489 : Cond.instanceMethod yX7_rebuild ∈ wU := List.mem_filter.mpr ⟨tb_3 _ (List.mem_of_getElem? (i := 59) rfl), rfl⟩
theorem q_490 : Cond.selects RX7 yX7_rebuild yX7_rebuild ∈ wU := List.mem_filter.mpr ⟨tb_3 _ (List.mem_of_getElem? (i := 60) rfl), rfl⟩
theorem q_491 : Cond.code yX7_rebuild cX7_rebuild 5 none ∈ wU := List.mem_filter.mpr ⟨tb_3 _ (List.mem_of_getElem? (i := 61) rfl), rfl⟩
theorem q_492 : Cond.fieldLink RX7 22 "HiddenEdges$Strokes" "count" "I" ∈ wU := List.mem_filter.mpr ⟨tb_1 _ (List.mem_of_getElem? (i := 224) rfl), rfl⟩
theorem q_493 : Cond.fieldLink RX7 26 "HiddenEdges$Strokes" "steps" "I" ∈ wU := List.mem_filter.mpr ⟨tb_1 _ (List.mem_of_getElem? (i := 219) rfl), rfl⟩
theorem q_494 : Cond.fieldLink RX7 59 "HiddenEdges$Edges" "count" "I" ∈ wU := List.mem_filter.mpr ⟨tb_1 _ (List.mem_of_getElem? (i := 131) rfl), rfl⟩
theorem q_495 : Cond.fieldLink RX7 60 "HiddenEdges$Pieces" "visible" "[J" ∈ wU := List.mem_filter.mpr ⟨tb_1 _ (List.mem_of_getElem? (i := 194) rfl), rfl⟩
theorem q_496 : Cond.fieldLink RX7 52 "HiddenEdges$Pieces" "count" "[I" ∈ wU := List.mem_filter.mpr ⟨tb_1 _ (List.mem_of_getElem? (i := 192) rfl), rfl⟩
theorem q_497 : Cond.methodLink RX7 63 yX7_isLeft ∈ wU := List.mem_filter.mpr ⟨tb_3 _ (List.mem_of_getElem? (i := 62) rfl), rfl⟩
theorem q_498 : Cond.instanceMethod yX7_isLeft ∈ wU := List.mem_filter.mpr ⟨tb_3 _ (List.mem_of_getElem? (i := 64) rfl), rfl⟩
theorem q_499 : Cond.selects RX7 yX7_isLeft yX7_isLeft ∈ wU := List.mem_filter.mpr ⟨pb_1 (⟨"HiddenEdges$Strokes", "isLeft", "(II)Z"⟩, 5) (List.mem_of_getElem? (i := 13) rfl), rfl⟩
theorem q_500 : Cond.code yX7_isLeft cX7_isLeft 3 (some .boolean) ∈ wU := List.mem_filter.mpr ⟨tb_3 _ (List.mem_of_getElem? (i := 65) rfl), rfl⟩
theorem q_501 : Cond.methodLink RX7 67 yX7_stepOf ∈ wU := List.mem_filter.mpr ⟨tb_3 _ (List.mem_of_getElem? (i := 66) rfl), rfl⟩
theorem q_502 : Cond.static yX7_stepOf ∈ wU := List.mem_filter.mpr ⟨tb_3 _ (List.mem_of_getElem? (i := 67) rfl), rfl⟩
theorem q_503 : Cond.code yX7_stepOf cX7_stepOf 3 (some .int) ∈ wU := List.mem_filter.mpr ⟨tb_3 _ (List.mem_of_getElem? (i := 68) rfl), rfl⟩
theorem q_504 : Cond.methodLink RX7 71 yX7_draw ∈ wU := List.mem_filter.mpr ⟨tb_3 _ (List.mem_of_getElem? (i := 69) rfl), rfl⟩
theorem q_505 : Cond.instanceMethod yX7_draw ∈ wU := List.mem_filter.mpr ⟨tb_3 _ (List.mem_of_getElem? (i := 71) rfl), rfl⟩
theorem q_506 : Cond.selects RX7 yX7_draw yX7_draw ∈ wU := List.mem_filter.mpr ⟨pb_1 (⟨"HiddenEdges$Strokes", "draw", "(ILHiddenEdges$Edges;LHiddenEdges$Pieces;)V"⟩, 5) (List.mem_of_getElem? (i := 14) rfl), rfl⟩
theorem q_507 : Cond.code yX7_draw cX7_draw 5 none ∈ wU := List.mem_filter.mpr ⟨tb_3 _ (List.mem_of_getElem? (i := 72) rfl), rfl⟩
theorem q_508 : Cond.constantLong RX7 75 (-1) ∈ wU := List.mem_filter.mpr ⟨tb_3 _ (List.mem_of_getElem? (i := 79) rfl), rfl⟩
theorem q_509 : Cond.methodLink RX7 38 yX7_edgeOf ∈ wU := List.mem_filter.mpr ⟨tb_3 _ (List.mem_of_getElem? (i := 73) rfl), rfl⟩
theorem q_510 : Cond.static yX7_edgeOf ∈ wU := List.mem_filter.mpr ⟨tb_3 _ (List.mem_of_getElem? (i := 74) rfl), rfl⟩
theorem q_511 : Cond.code yX7_edgeOf cX7_edgeOf 1 (some .int) ∈ wU := List.mem_filter.mpr ⟨tb_3 _ (List.mem_of_getElem? (i := 75) rfl), rfl⟩
theorem q_512 : Cond.methodLink RX7 29 yX7_pieceOf ∈ wU := List.mem_filter.mpr ⟨tb_3 _ (List.mem_of_getElem? (i := 76) rfl), rfl⟩
theorem q_513 : Cond.static yX7_pieceOf ∈ wU := List.mem_filter.mpr ⟨tb_3 _ (List.mem_of_getElem? (i := 77) rfl), rfl⟩
theorem q_514 : Cond.code yX7_pieceOf cX7_pieceOf 1 (some .int) ∈ wU := List.mem_filter.mpr ⟨tb_3 _ (List.mem_of_getElem? (i := 78) rfl), rfl⟩
theorem q_515 : Cond.methodLink RX7 44 yX7_pointBehind ∈ wU := List.mem_filter.mpr ⟨tb_3 _ (List.mem_of_getElem? (i := 80) rfl), rfl⟩
theorem q_516 : Cond.static yX7_pointBehind ∈ wU := List.mem_filter.mpr ⟨tb_3 _ (List.mem_of_getElem? (i := 81) rfl), rfl⟩
theorem q_517 : Cond.code yX7_pointBehind cX7_pointBehind 5 (some .int) ∈ wU := List.mem_filter.mpr ⟨tb_3 _ (List.mem_of_getElem? (i := 82) rfl), rfl⟩
theorem q_518 : Cond.fieldLink RX7 56 "HiddenEdges$Edges" "high" "[I" ∈ wU := List.mem_filter.mpr ⟨tb_1 _ (List.mem_of_getElem? (i := 121) rfl), rfl⟩
theorem q_519 : Cond.fieldLink RX7 33 "HiddenEdges$Edges" "low" "[I" ∈ wU := List.mem_filter.mpr ⟨tb_1 _ (List.mem_of_getElem? (i := 116) rfl), rfl⟩
theorem q_520 : Cond.methodLink RX7 48 yX7_isForward ∈ wU := List.mem_filter.mpr ⟨tb_3 _ (List.mem_of_getElem? (i := 83) rfl), rfl⟩
theorem q_521 : Cond.static yX7_isForward ∈ wU := List.mem_filter.mpr ⟨tb_3 _ (List.mem_of_getElem? (i := 84) rfl), rfl⟩
theorem q_522 : Cond.code yX7_isForward cX7_isForward 1 (some .boolean) ∈ wU := List.mem_filter.mpr ⟨tb_3 _ (List.mem_of_getElem? (i := 85) rfl), rfl⟩
theorem q_523 : Cond.methodLink RX7 77 yX7_stepFrom ∈ wU := List.mem_filter.mpr ⟨tb_3 _ (List.mem_of_getElem? (i := 86) rfl), rfl⟩
theorem q_524 : Cond.instanceMethod yX7_stepFrom ∈ wU := List.mem_filter.mpr ⟨tb_3 _ (List.mem_of_getElem? (i := 88) rfl), rfl⟩
theorem q_525 : Cond.selects RX7 yX7_stepFrom yX7_stepFrom ∈ wU := List.mem_filter.mpr ⟨pb_1 (⟨"HiddenEdges$Strokes", "stepFrom", "(ILHiddenEdges$Edges;LHiddenEdges$Pieces;)I"⟩, 5) (List.mem_of_getElem? (i := 15) rfl), rfl⟩
theorem q_526 : Cond.code yX7_stepFrom cX7_stepFrom 6 (some .int) ∈ wU := List.mem_filter.mpr ⟨tb_3 _ (List.mem_of_getElem? (i := 89) rfl), rfl⟩
theorem q_527 : Cond.methodLink RX8 153 yX6_countHiding ∈ wU := List.mem_filter.mpr ⟨tb_3 _ (List.mem_of_getElem? (i := 90) rfl), rfl⟩
theorem q_528 : Cond.instanceMethod yX6_countHiding ∈ wU := List.mem_filter.mpr ⟨tb_3 _ (List.mem_of_getElem? (i := 91) rfl), rfl⟩
theorem q_529 : Cond.selects RX6 yX6_countHiding yX6_countHiding ∈ wU := List.mem_filter.mpr ⟨tb_3 _ (List.mem_of_getElem? (i := 92) rfl), rfl⟩
theorem q_530 : Cond.code yX6_countHiding cX6_countHiding 11 (some .int) ∈ wU := List.mem_filter.mpr ⟨tb_3 _ (List.mem_of_getElem? (i := 93) rfl), rfl⟩
theorem q_531 : Cond.methodLink RX8 157 yX1_countAt ∈ wU := List.mem_filter.mpr ⟨tb_3 _ (List.mem_of_getElem? (i := 94) rfl), rfl⟩
theorem q_532 : Cond.instanceMethod yX1_countAt ∈ wU := List.mem_filter.mpr ⟨tb_3 _ (List.mem_of_getElem? (i := 95) rfl), rfl⟩
theorem q_533 : Cond.selects RX1 yX1_countAt yX1_countAt ∈ wU := List.mem_filter.mpr ⟨tb_3 _ (List.mem_of_getElem? (i := 96) rfl), rfl⟩
theorem q_534 : Cond.code yX1_countAt cX1_countAt 4 (some .int) ∈ wU := List.mem_filter.mpr ⟨tb_3 _ (List.mem_of_getElem? (i := 97) rfl), rfl⟩
theorem q_535 : Cond.methodLink RL 57 yX9_ofPoint ∈ wU := List.mem_filter.mpr ⟨tb_4 _ (List.mem_of_getElem? (i := 177) rfl), rfl⟩
theorem q_536 : Cond.instanceMethod yX9_ofPoint ∈ wU := List.mem_filter.mpr ⟨tb_4 _ (List.mem_of_getElem? (i := 178) rfl), rfl⟩
theorem q_537 : Cond.selects RX9 yX9_ofPoint yX9_ofPoint ∈ wU := List.mem_filter.mpr ⟨tb_4 _ (List.mem_of_getElem? (i := 179) rfl), rfl⟩
theorem q_538 : Cond.code yX9_ofPoint cX9_ofPoint 5 (some .int) ∈ wU := List.mem_filter.mpr ⟨tb_4 _ (List.mem_of_getElem? (i := 180) rfl), rfl⟩
theorem q_539 : Cond.fieldLink RX9 180 "HiddenEdgesModel" "edges" "I" ∈ wU := List.mem_filter.mpr ⟨tb_3 _ (List.mem_of_getElem? (i := 235) rfl), rfl⟩
theorem q_540 : Cond.methodLink RX9 200 yX9_findAll ∈ wU := List.mem_filter.mpr ⟨tb_4 _ (List.mem_of_getElem? (i := 181) rfl), rfl⟩
theorem q_541 : Cond.instanceMethod yX9_findAll ∈ wU := List.mem_filter.mpr ⟨tb_4 _ (List.mem_of_getElem? (i := 183) rfl), rfl⟩
theorem q_542 : Cond.selects RX9 yX9_findAll yX9_findAll ∈ wU := List.mem_filter.mpr ⟨pb_2 (⟨"HiddenEdgesModel", "findAll", "()V"⟩, 39) (List.mem_of_getElem? (i := 10) rfl), rfl⟩
theorem q_543 : Cond.code yX9_findAll cX9_findAll 3 none ∈ wU := List.mem_filter.mpr ⟨tb_4 _ (List.mem_of_getElem? (i := 184) rfl), rfl⟩
theorem q_544 : Cond.methodLink RX9 193 yX9_findEdge ∈ wU := List.mem_filter.mpr ⟨tb_4 _ (List.mem_of_getElem? (i := 185) rfl), rfl⟩
theorem q_545 : Cond.instanceMethod yX9_findEdge ∈ wU := List.mem_filter.mpr ⟨tb_4 _ (List.mem_of_getElem? (i := 187) rfl), rfl⟩
theorem q_546 : Cond.selects RX9 yX9_findEdge yX9_findEdge ∈ wU := List.mem_filter.mpr ⟨pb_2 (⟨"HiddenEdgesModel", "findEdge", "(II)V"⟩, 39) (List.mem_of_getElem? (i := 11) rfl), rfl⟩
theorem q_547 : Cond.code yX9_findEdge cX9_findEdge 6 none ∈ wU := List.mem_filter.mpr ⟨tb_4 _ (List.mem_of_getElem? (i := 188) rfl), rfl⟩
theorem q_548 : Cond.fieldLink RX9 156 "HiddenEdgesModel" "beginUp" "J" ∈ wU := List.mem_filter.mpr ⟨tb_4 _ (List.mem_of_getElem? (i := 4) rfl), rfl⟩
theorem q_549 : Cond.fieldLink RX9 160 "HiddenEdgesModel" "beginDown" "J" ∈ wU := List.mem_filter.mpr ⟨tb_4 _ (List.mem_of_getElem? (i := 5) rfl), rfl⟩
theorem q_550 : Cond.fieldLink RX9 163 "HiddenEdgesModel" "endUp" "J" ∈ wU := List.mem_filter.mpr ⟨tb_4 _ (List.mem_of_getElem? (i := 6) rfl), rfl⟩
theorem q_551 : Cond.fieldLink RX9 166 "HiddenEdgesModel" "endDown" "J" ∈ wU := List.mem_filter.mpr ⟨tb_4 _ (List.mem_of_getElem? (i := 7) rfl), rfl⟩
theorem q_552 : Cond.methodLink RX9 176 yX9_commonFaces ∈ wU := List.mem_filter.mpr ⟨tb_4 _ (List.mem_of_getElem? (i := 189) rfl), rfl⟩
theorem q_553 : Cond.instanceMethod yX9_commonFaces ∈ wU := List.mem_filter.mpr ⟨tb_4 _ (List.mem_of_getElem? (i := 191) rfl), rfl⟩
theorem q_554 : Cond.selects RX9 yX9_commonFaces yX9_commonFaces ∈ wU := List.mem_filter.mpr ⟨pb_2 (⟨"HiddenEdgesModel", "commonFaces", "(II)I"⟩, 39) (List.mem_of_getElem? (i := 12) rfl), rfl⟩
theorem q_555 : Cond.code yX9_commonFaces cX9_commonFaces 5 (some .int) ∈ wU := List.mem_filter.mpr ⟨tb_4 _ (List.mem_of_getElem? (i := 192) rfl), rfl⟩
theorem q_556 : Cond.methodLink RX9 183 yX9_sortBy ∈ wU := List.mem_filter.mpr ⟨tb_4 _ (List.mem_of_getElem? (i := 193) rfl), rfl⟩
theorem q_557 : Cond.instanceMethod yX9_sortBy ∈ wU := List.mem_filter.mpr ⟨tb_4 _ (List.mem_of_getElem? (i := 195) rfl), rfl⟩
theorem q_558 : Cond.selects RX9 yX9_sortBy yX9_sortBy ∈ wU := List.mem_filter.mpr ⟨pb_2 (⟨"HiddenEdgesModel", "sortBy", "(III)I"⟩, 39) (List.mem_of_getElem? (i := 13) rfl), rfl⟩
theorem q_559 : Cond.code yX9_sortBy cX9_sortBy 10 (some .int) ∈ wU := List.mem_filter.mpr ⟨tb_4 _ (List.mem_of_getElem? (i := 196) rfl), rfl⟩
theorem q_560 : Cond.methodLink RX9 153 yX9_thirdOf ∈ wU := List.mem_filter.mpr ⟨tb_4 _ (List.mem_of_getElem? (i := 197) rfl), rfl⟩
theorem q_561 : Cond.instanceMethod yX9_thirdOf ∈ wU := List.mem_filter.mpr ⟨tb_4 _ (List.mem_of_getElem? (i := 199) rfl), rfl⟩
theorem q_562 : Cond.selects RX9 yX9_thirdOf yX9_thirdOf ∈ wU := List.mem_filter.mpr ⟨pb_2 (⟨"HiddenEdgesModel", "thirdOf", "(III)I"⟩, 39) (List.mem_of_getElem? (i := 14) rfl), rfl⟩
theorem q_563 : Cond.code yX9_thirdOf cX9_thirdOf 6 (some .int) ∈ wU := List.mem_filter.mpr ⟨tb_4 _ (List.mem_of_getElem? (i := 200) rfl), rfl⟩
theorem q_564 : Cond.methodLink RX9 141 yX9_volBy ∈ wU := List.mem_filter.mpr ⟨tb_4 _ (List.mem_of_getElem? (i := 201) rfl), rfl⟩
theorem q_565 : Cond.instanceMethod yX9_volBy ∈ wU := List.mem_filter.mpr ⟨tb_4 _ (List.mem_of_getElem? (i := 203) rfl), rfl⟩
theorem q_566 : Cond.selects RX9 yX9_volBy yX9_volBy ∈ wU := List.mem_filter.mpr ⟨pb_2 (⟨"HiddenEdgesModel", "volBy", "(IIIIIIII)J"⟩, 39) (List.mem_of_getElem? (i := 15) rfl), rfl⟩
theorem q_567 : Cond.code yX9_volBy cX9_volBy 9 (some .long) ∈ wU := List.mem_filter.mpr ⟨tb_4 _ (List.mem_of_getElem? (i := 204) rfl), rfl⟩
theorem q_568 : Cond.methodLink RX9 104 yX9_vol ∈ wU := List.mem_filter.mpr ⟨tb_4 _ (List.mem_of_getElem? (i := 205) rfl), rfl⟩
theorem q_569 : Cond.static yX9_vol ∈ wU := List.mem_filter.mpr ⟨tb_4 _ (List.mem_of_getElem? (i := 206) rfl), rfl⟩
theorem q_570 : Cond.code yX9_vol cX9_vol 9 (some .long) ∈ wU := List.mem_filter.mpr ⟨tb_4 _ (List.mem_of_getElem? (i := 207) rfl), rfl⟩
theorem q_571 : Cond.methodLink RX9 145 yX9_turnOf ∈ wU := List.mem_filter.mpr ⟨tb_4 _ (List.mem_of_getElem? (i := 208) rfl), rfl⟩
theorem q_572 : Cond.instanceMethod yX9_turnOf ∈ wU := List.mem_filter.mpr ⟨tb_4 _ (List.mem_of_getElem? (i := 210) rfl), rfl⟩
theorem q_573 : Cond.selects RX9 yX9_turnOf yX9_turnOf ∈ wU := List.mem_filter.mpr ⟨pb_3 (⟨"HiddenEdgesModel", "turnOf", "(I)J"⟩, 39) (List.mem_of_getElem? (i := 0) rfl), rfl⟩
theorem q_574 : Cond.code yX9_turnOf cX9_turnOf 4 (some .long) ∈ wU := List.mem_filter.mpr ⟨tb_4 _ (List.mem_of_getElem? (i := 211) rfl), rfl⟩
theorem q_575 : Cond.methodLink RX9 186 yX9_cuts ∈ wU := List.mem_filter.mpr ⟨tb_4 _ (List.mem_of_getElem? (i := 212) rfl), rfl⟩
theorem q_576 : Cond.instanceMethod yX9_cuts ∈ wU := List.mem_filter.mpr ⟨tb_4 _ (List.mem_of_getElem? (i := 214) rfl), rfl⟩
theorem q_577 : Cond.selects RX9 yX9_cuts yX9_cuts ∈ wU := List.mem_filter.mpr ⟨pb_3 (⟨"HiddenEdgesModel", "cuts", "(IJJ)V"⟩, 39) (List.mem_of_getElem? (i := 1) rfl), rfl⟩
theorem q_578 : Cond.code yX9_cuts cX9_cuts 15 none ∈ wU := List.mem_filter.mpr ⟨tb_4 _ (List.mem_of_getElem? (i := 215) rfl), rfl⟩
theorem q_579 : Cond.methodLink RX9 169 yX9_common ∈ wU := List.mem_filter.mpr ⟨tb_4 _ (List.mem_of_getElem? (i := 216) rfl), rfl⟩
theorem q_580 : Cond.static yX9_common ∈ wU := List.mem_filter.mpr ⟨tb_4 _ (List.mem_of_getElem? (i := 217) rfl), rfl⟩
theorem q_581 : Cond.code yX9_common cX9_common 10 (some .long) ∈ wU := List.mem_filter.mpr ⟨tb_4 _ (List.mem_of_getElem? (i := 218) rfl), rfl⟩
theorem q_582 : Cond.methodLink RX9 173 yX9_findStretch ∈ wU := List.mem_filter.mpr ⟨tb_4 _ (List.mem_of_getElem? (i := 219) rfl), rfl⟩
theorem q_583 : Cond.instanceMethod yX9_findStretch ∈ wU := List.mem_filter.mpr ⟨tb_4 _ (List.mem_of_getElem? (i := 221) rfl), rfl⟩
theorem q_584 : Cond.selects RX9 yX9_findStretch yX9_findStretch ∈ wU := List.mem_filter.mpr ⟨pb_3 (⟨"HiddenEdgesModel", "findStretch", "(II)Z"⟩, 39) (List.mem_of_getElem? (i := 2) rfl), rfl⟩
theorem q_585 : Cond.code yX9_findStretch cX9_findStretch 8 (some .boolean) ∈ wU := List.mem_filter.mpr ⟨tb_4 _ (List.mem_of_getElem? (i := 222) rfl), rfl⟩
theorem q_586 : Cond.methodLink RX9 149 yX9_against ∈ wU := List.mem_filter.mpr ⟨tb_4 _ (List.mem_of_getElem? (i := 223) rfl), rfl⟩
theorem q_587 : Cond.instanceMethod yX9_against ∈ wU := List.mem_filter.mpr ⟨tb_4 _ (List.mem_of_getElem? (i := 225) rfl), rfl⟩
theorem q_588 : Cond.selects RX9 yX9_against yX9_against ∈ wU := List.mem_filter.mpr ⟨pb_3 (⟨"HiddenEdgesModel", "against", "(III)J"⟩, 39) (List.mem_of_getElem? (i := 3) rfl), rfl⟩
theorem q_589 : Cond.code yX9_against cX9_against 8 (some .long) ∈ wU := List.mem_filter.mpr ⟨tb_4 _ (List.mem_of_getElem? (i := 226) rfl), rfl⟩
theorem q_590 : Cond.methodLink RX9 190 yX9_quantityBy ∈ wU := List.mem_filter.mpr ⟨tb_4 _ (List.mem_of_getElem? (i := 227) rfl), rfl⟩
theorem q_591 : Cond.instanceMethod yX9_quantityBy ∈ wU := List.mem_filter.mpr ⟨tb_4 _ (List.mem_of_getElem? (i := 229) rfl), rfl⟩
theorem q_592 : Cond.selects RX9 yX9_quantityBy yX9_quantityBy ∈ wU := List.mem_filter.mpr ⟨pb_3 (⟨"HiddenEdgesModel", "quantityBy", "(II)I"⟩, 39) (List.mem_of_getElem? (i := 4) rfl), rfl⟩
theorem q_593 : Cond.code yX9_quantityBy cX9_quantityBy 7 (some .int) ∈ wU := List.mem_filter.mpr ⟨tb_4 _ (List.mem_of_getElem? (i := 230) rfl), rfl⟩
theorem q_594 : Cond.methodLink RX9 197 yX9_findStrokes ∈ wU := List.mem_filter.mpr ⟨tb_4 _ (List.mem_of_getElem? (i := 231) rfl), rfl⟩
theorem q_595 : Cond.instanceMethod yX9_findStrokes ∈ wU := List.mem_filter.mpr ⟨tb_4 _ (List.mem_of_getElem? (i := 233) rfl), rfl⟩
theorem q_596 : Cond.selects RX9 yX9_findStrokes yX9_findStrokes ∈ wU := List.mem_filter.mpr ⟨pb_3 (⟨"HiddenEdgesModel", "findStrokes", "()V"⟩, 39) (List.mem_of_getElem? (i := 5) rfl), rfl⟩
theorem q_597 : Cond.code yX9_findStrokes cX9_findStrokes 4 none ∈ wU := List.mem_filter.mpr ⟨tb_4 _ (List.mem_of_getElem? (i := 234) rfl), rfl⟩
theorem q_598 : Cond.fieldLink RX9 259 "HiddenEdgesModel" "strokes" "I" ∈ wU := List.mem_filter.mpr ⟨tb_4 _ (List.mem_of_getElem? (i := 12) rfl), rfl⟩
theorem q_599 : Cond.fieldLink RX9 245 "HiddenEdgesModel" "laid" "I" ∈ wU := List.mem_filter.mpr ⟨tb_4 _ (List.mem_of_getElem? (i := 13) rfl), rfl⟩
theorem q_600 : Cond.methodLink RX9 203 yX9_piecesOf ∈ wU := List.mem_filter.mpr ⟨tb_4 _ (List.mem_of_getElem? (i := 235) rfl), rfl⟩
theorem q_601 : Cond.instanceMethod yX9_piecesOf ∈ wU := List.mem_filter.mpr ⟨tb_4 _ (List.mem_of_getElem? (i := 237) rfl), rfl⟩
theorem q_602 : Cond.selects RX9 yX9_piecesOf yX9_piecesOf ∈ wU := List.mem_filter.mpr ⟨pb_3 (⟨"HiddenEdgesModel", "piecesOf", "(I)I"⟩, 39) (List.mem_of_getElem? (i := 6) rfl), rfl⟩
theorem q_603 : Cond.code yX9_piecesOf cX9_piecesOf 2 (some .int) ∈ wU := List.mem_filter.mpr ⟨tb_4 _ (List.mem_of_getElem? (i := 238) rfl), rfl⟩
theorem q_604 : Cond.methodLink RX9 248 yX9_isFree ∈ wU := List.mem_filter.mpr ⟨tb_4 _ (List.mem_of_getElem? (i := 239) rfl), rfl⟩
theorem q_605 : Cond.instanceMethod yX9_isFree ∈ wU := List.mem_filter.mpr ⟨tb_5 _ (List.mem_of_getElem? (i := 1) rfl), rfl⟩
theorem q_606 : Cond.selects RX9 yX9_isFree yX9_isFree ∈ wU := List.mem_filter.mpr ⟨pb_3 (⟨"HiddenEdgesModel", "isFree", "(II)Z"⟩, 39) (List.mem_of_getElem? (i := 7) rfl), rfl⟩
theorem q_607 : Cond.code yX9_isFree cX9_isFree 3 (some .boolean) ∈ wU := List.mem_filter.mpr ⟨tb_5 _ (List.mem_of_getElem? (i := 2) rfl), rfl⟩
theorem q_608 : Cond.methodLink RX9 207 yX9_isSeen ∈ wU := List.mem_filter.mpr ⟨tb_5 _ (List.mem_of_getElem? (i := 3) rfl), rfl⟩
theorem q_609 : Cond.instanceMethod yX9_isSeen ∈ wU := List.mem_filter.mpr ⟨tb_5 _ (List.mem_of_getElem? (i := 5) rfl), rfl⟩
theorem q_610 : Cond.selects RX9 yX9_isSeen yX9_isSeen ∈ wU := List.mem_filter.mpr ⟨pb_3 (⟨"HiddenEdgesModel", "isSeen", "(II)Z"⟩, 39) (List.mem_of_getElem? (i := 8) rfl), rfl⟩
theorem q_611 : Cond.code yX9_isSeen cX9_isSeen 3 (some .boolean) ∈ wU := List.mem_filter.mpr ⟨tb_5 _ (List.mem_of_getElem? (i := 6) rfl), rfl⟩
theorem q_612 : Cond.methodLink RX9 251 yX9_lays ∈ wU := List.mem_filter.mpr ⟨tb_5 _ (List.mem_of_getElem? (i := 7) rfl), rfl⟩
theorem q_613 : Cond.instanceMethod yX9_lays ∈ wU := List.mem_filter.mpr ⟨tb_5 _ (List.mem_of_getElem? (i := 9) rfl), rfl⟩
theorem q_614 : Cond.selects RX9 yX9_lays yX9_lays ∈ wU := List.mem_filter.mpr ⟨pb_3 (⟨"HiddenEdgesModel", "lays", "(IIZ)V"⟩, 39) (List.mem_of_getElem? (i := 9) rfl), rfl⟩
theorem q_615 : Cond.code yX9_lays cX9_lays 4 none ∈ wU := List.mem_filter.mpr ⟨tb_5 _ (List.mem_of_getElem? (i := 10) rfl), rfl⟩
theorem q_616 : Cond.methodLink RX9 255 yX9_endOf ∈ wU := List.mem_filter.mpr ⟨tb_5 _ (List.mem_of_getElem? (i := 11) rfl), rfl⟩
theorem q_617 : Cond.instanceMethod yX9_endOf ∈ wU := List.mem_filter.mpr ⟨tb_5 _ (List.mem_of_getElem? (i := 13) rfl), rfl⟩
theorem q_618 : Cond.selects RX9 yX9_endOf yX9_endOf ∈ wU := List.mem_filter.mpr ⟨pb_3 (⟨"HiddenEdgesModel", "endOf", "(IIZ)I"⟩, 39) (List.mem_of_getElem? (i := 10) rfl), rfl⟩
theorem q_619 : Cond.code yX9_endOf cX9_endOf 4 (some .int) ∈ wU := List.mem_filter.mpr ⟨tb_5 _ (List.mem_of_getElem? (i := 14) rfl), rfl⟩
theorem q_620 : Cond.methodLink RX9 262 yX9_goesOn ∈ wU := List.mem_filter.mpr ⟨tb_5 _ (List.mem_of_getElem? (i := 15) rfl), rfl⟩
theorem q_621 : Cond.instanceMethod yX9_goesOn ∈ wU := List.mem_filter.mpr ⟨tb_5 _ (List.mem_of_getElem? (i := 17) rfl), rfl⟩
theorem q_622 : Cond.selects RX9 yX9_goesOn yX9_goesOn ∈ wU := List.mem_filter.mpr ⟨pb_3 (⟨"HiddenEdgesModel", "goesOn", "(I)I"⟩, 39) (List.mem_of_getElem? (i := 11) rfl), rfl⟩
theorem q_623 : Cond.code yX9_goesOn cX9_goesOn 4 (some .int) ∈ wU := List.mem_filter.mpr ⟨tb_5 _ (List.mem_of_getElem? (i := 18) rfl), rfl⟩
theorem q_624 : Cond.methodLink RX9 210 yX9_hidersOf ∈ wU := List.mem_filter.mpr ⟨tb_5 _ (List.mem_of_getElem? (i := 19) rfl), rfl⟩
theorem q_625 : Cond.instanceMethod yX9_hidersOf ∈ wU := List.mem_filter.mpr ⟨tb_5 _ (List.mem_of_getElem? (i := 21) rfl), rfl⟩
theorem q_626 : Cond.selects RX9 yX9_hidersOf yX9_hidersOf ∈ wU := List.mem_filter.mpr ⟨pb_3 (⟨"HiddenEdgesModel", "hidersOf", "(I)I"⟩, 39) (List.mem_of_getElem? (i := 12) rfl), rfl⟩
theorem q_627 : Cond.code yX9_hidersOf cX9_hidersOf 6 (some .int) ∈ wU := List.mem_filter.mpr ⟨tb_5 _ (List.mem_of_getElem? (i := 22) rfl), rfl⟩
theorem q_628 : Cond.methodLink RL 58 yX8_ofFace ∈ wU := List.mem_filter.mpr ⟨tb_3 _ (List.mem_of_getElem? (i := 98) rfl), rfl⟩
theorem q_629 : Cond.instanceMethod yX8_ofFace ∈ wU := List.mem_filter.mpr ⟨tb_3 _ (List.mem_of_getElem? (i := 99) rfl), rfl⟩
theorem q_630 : Cond.selects RX8 yX8_ofFace yX8_ofFace ∈ wU := List.mem_filter.mpr ⟨tb_3 _ (List.mem_of_getElem? (i := 100) rfl), rfl⟩
theorem q_631 : Cond.code yX8_ofFace cX8_ofFace 3 (some .int) ∈ wU := List.mem_filter.mpr ⟨tb_3 _ (List.mem_of_getElem? (i := 101) rfl), rfl⟩
theorem q_632 : Cond.fieldLink RX8 167 "HiddenEdges$Sight" "swing" "[I" ∈ wU := List.mem_filter.mpr ⟨tb_1 _ (List.mem_of_getElem? (i := 85) rfl), rfl⟩
theorem q_633 : Cond.methodLink RX8 170 Lib.Math.abs.name ∈ wU := List.mem_filter.mpr ⟨tb_3 _ (List.mem_of_getElem? (i := 107) rfl), rfl⟩
theorem q_634 : Cond.static Lib.Math.abs.name ∈ wU := List.mem_filter.mpr ⟨tb_3 _ (List.mem_of_getElem? (i := 108) rfl), rfl⟩
theorem q_635 : Cond.code Lib.Math.abs.name Lib.Math.abs.code 1 (some .int) ∈ wU := List.mem_filter.mpr ⟨tb_3 _ (List.mem_of_getElem? (i := 109) rfl), rfl⟩
theorem q_636 : Cond.methodLink RX8 161 yX4_hasFace ∈ wU := List.mem_filter.mpr ⟨tb_3 _ (List.mem_of_getElem? (i := 102) rfl), rfl⟩
theorem q_637 : Cond.instanceMethod yX4_hasFace ∈ wU := List.mem_filter.mpr ⟨tb_3 _ (List.mem_of_getElem? (i := 103) rfl), rfl⟩
theorem q_638 : Cond.selects RX4 yX4_hasFace yX4_hasFace ∈ wU := List.mem_filter.mpr ⟨tb_3 _ (List.mem_of_getElem? (i := 104) rfl), rfl⟩
theorem q_639 : Cond.code yX4_hasFace cX4_hasFace 2 (some .boolean) ∈ wU := List.mem_filter.mpr ⟨tb_3 _ (List.mem_of_getElem? (i := 105) rfl), rfl⟩
theorem q_640 : Cond.methodLink RX8 164 yX4_cornerOf ∈ wU := List.mem_filter.mpr ⟨tb_3 _ (List.mem_of_getElem? (i := 106) rfl), rfl⟩
theorem q_641 : Cond.methodLink RL 61 yX9_ofFace ∈ wU := List.mem_filter.mpr ⟨tb_5 _ (List.mem_of_getElem? (i := 23) rfl), rfl⟩
theorem q_642 : Cond.instanceMethod yX9_ofFace ∈ wU := List.mem_filter.mpr ⟨tb_5 _ (List.mem_of_getElem? (i := 24) rfl), rfl⟩
theorem q_643 : Cond.selects RX9 yX9_ofFace yX9_ofFace ∈ wU := List.mem_filter.mpr ⟨tb_5 _ (List.mem_of_getElem? (i := 25) rfl), rfl⟩
theorem q_644 : Cond.code yX9_ofFace cX9_ofFace 5 (some .int) ∈ wU := List.mem_filter.mpr ⟨tb_5 _ (List.mem_of_getElem? (i := 26) rfl), rfl⟩
theorem q_645 : Cond.methodLink RX9 213 yX9_isFace ∈ wU := List.mem_filter.mpr ⟨tb_5 _ (List.mem_of_getElem? (i := 27) rfl), rfl⟩
theorem q_646 : Cond.instanceMethod yX9_isFace ∈ wU := List.mem_filter.mpr ⟨tb_5 _ (List.mem_of_getElem? (i := 29) rfl), rfl⟩
theorem q_647 : Cond.selects RX9 yX9_isFace yX9_isFace ∈ wU := List.mem_filter.mpr ⟨pb_3 (⟨"HiddenEdgesModel", "isFace", "(I)Z"⟩, 39) (List.mem_of_getElem? (i := 13) rfl), rfl⟩
theorem q_648 : Cond.code yX9_isFace cX9_isFace 2 (some .boolean) ∈ wU := List.mem_filter.mpr ⟨tb_5 _ (List.mem_of_getElem? (i := 30) rfl), rfl⟩
theorem q_649 : Cond.methodLink RL 62 yX8_ofEdge ∈ wU := List.mem_filter.mpr ⟨tb_3 _ (List.mem_of_getElem? (i := 110) rfl), rfl⟩
theorem q_650 : Cond.instanceMethod yX8_ofEdge ∈ wU := List.mem_filter.mpr ⟨tb_3 _ (List.mem_of_getElem? (i := 111) rfl), rfl⟩
theorem q_651 : Cond.selects RX8 yX8_ofEdge yX8_ofEdge ∈ wU := List.mem_filter.mpr ⟨tb_3 _ (List.mem_of_getElem? (i := 112) rfl), rfl⟩
theorem q_652 : Cond.code yX8_ofEdge cX8_ofEdge 3 (some .int) ∈ wU := List.mem_filter.mpr ⟨tb_3 _ (List.mem_of_getElem? (i := 113) rfl), rfl⟩
theorem q_653 : Cond.fieldLink RX8 178 "HiddenEdges$Edges" "low" "[I" ∈ wU := List.mem_filter.mpr ⟨tb_1 _ (List.mem_of_getElem? (i := 117) rfl), rfl⟩
theorem q_654 : Cond.fieldLink RX8 181 "HiddenEdges$Edges" "high" "[I" ∈ wU := List.mem_filter.mpr ⟨tb_1 _ (List.mem_of_getElem? (i := 122) rfl), rfl⟩
theorem q_655 : Cond.fieldLink RX8 184 "HiddenEdges$Edges" "sharing" "[I" ∈ wU := List.mem_filter.mpr ⟨tb_1 _ (List.mem_of_getElem? (i := 124) rfl), rfl⟩
theorem q_656 : Cond.fieldLink RX8 187 "HiddenEdges$Edges" "sort" "[I" ∈ wU := List.mem_filter.mpr ⟨tb_1 _ (List.mem_of_getElem? (i := 127) rfl), rfl⟩
theorem q_657 : Cond.fieldLink RX8 198 "HiddenEdges$Cuts" "visible" "J" ∈ wU := List.mem_filter.mpr ⟨tb_1 _ (List.mem_of_getElem? (i := 166) rfl), rfl⟩
theorem q_658 : Cond.methodLink RX8 175 yX1_has ∈ wU := List.mem_filter.mpr ⟨tb_3 _ (List.mem_of_getElem? (i := 114) rfl), rfl⟩
theorem q_659 : Cond.instanceMethod yX1_has ∈ wU := List.mem_filter.mpr ⟨tb_3 _ (List.mem_of_getElem? (i := 115) rfl), rfl⟩
theorem q_660 : Cond.selects RX1 yX1_has yX1_has ∈ wU := List.mem_filter.mpr ⟨tb_3 _ (List.mem_of_getElem? (i := 116) rfl), rfl⟩
theorem q_661 : Cond.code yX1_has cX1_has 2 (some .boolean) ∈ wU := List.mem_filter.mpr ⟨tb_3 _ (List.mem_of_getElem? (i := 117) rfl), rfl⟩
theorem q_662 : Cond.methodLink RX8 190 yX0_load ∈ wU := List.mem_filter.mpr ⟨tb_3 _ (List.mem_of_getElem? (i := 118) rfl), rfl⟩
theorem q_663 : Cond.methodLink RX8 194 yX0_pieceCount ∈ wU := List.mem_filter.mpr ⟨tb_3 _ (List.mem_of_getElem? (i := 119) rfl), rfl⟩
theorem q_664 : Cond.methodLink RX8 202 yJ13_bitCount_95d88 ∈ wU := List.mem_filter.mpr ⟨tb_3 _ (List.mem_of_getElem? (i := 120) rfl), rfl⟩
theorem q_665 : Cond.methodLink RL 65 yX9_ofEdge ∈ wU := List.mem_filter.mpr ⟨tb_5 _ (List.mem_of_getElem? (i := 31) rfl), rfl⟩
theorem q_666 : Cond.instanceMethod yX9_ofEdge ∈ wU := List.mem_filter.mpr ⟨tb_5 _ (List.mem_of_getElem? (i := 32) rfl), rfl⟩
theorem q_667 : Cond.selects RX9 yX9_ofEdge yX9_ofEdge ∈ wU := List.mem_filter.mpr ⟨tb_5 _ (List.mem_of_getElem? (i := 33) rfl), rfl⟩
theorem q_668 : Cond.code yX9_ofEdge cX9_ofEdge 3 (some .int) ∈ wU := List.mem_filter.mpr ⟨tb_5 _ (List.mem_of_getElem? (i := 34) rfl), rfl⟩
theorem q_669 : Cond.methodLink RX9 216 yX9_isEdge ∈ wU := List.mem_filter.mpr ⟨tb_5 _ (List.mem_of_getElem? (i := 35) rfl), rfl⟩
theorem q_670 : Cond.instanceMethod yX9_isEdge ∈ wU := List.mem_filter.mpr ⟨tb_5 _ (List.mem_of_getElem? (i := 37) rfl), rfl⟩
theorem q_671 : Cond.selects RX9 yX9_isEdge yX9_isEdge ∈ wU := List.mem_filter.mpr ⟨pb_3 (⟨"HiddenEdgesModel", "isEdge", "(I)Z"⟩, 39) (List.mem_of_getElem? (i := 14) rfl), rfl⟩
theorem q_672 : Cond.code yX9_isEdge cX9_isEdge 2 (some .boolean) ∈ wU := List.mem_filter.mpr ⟨tb_5 _ (List.mem_of_getElem? (i := 38) rfl), rfl⟩
theorem q_673 : Cond.methodLink RX9 219 yX9_seenOf ∈ wU := List.mem_filter.mpr ⟨tb_5 _ (List.mem_of_getElem? (i := 39) rfl), rfl⟩
theorem q_674 : Cond.instanceMethod yX9_seenOf ∈ wU := List.mem_filter.mpr ⟨tb_5 _ (List.mem_of_getElem? (i := 41) rfl), rfl⟩
theorem q_675 : Cond.selects RX9 yX9_seenOf yX9_seenOf ∈ wU := List.mem_filter.mpr ⟨pb_3 (⟨"HiddenEdgesModel", "seenOf", "(I)I"⟩, 39) (List.mem_of_getElem? (i := 15) rfl), rfl⟩
theorem q_676 : Cond.code yX9_seenOf cX9_seenOf 4 (some .int) ∈ wU := List.mem_filter.mpr ⟨tb_5 _ (List.mem_of_getElem? (i := 42) rfl), rfl⟩
theorem q_677 : Cond.methodLink RL 66 yX8_edge ∈ wU := List.mem_filter.mpr ⟨tb_3 _ (List.mem_of_getElem? (i := 121) rfl), rfl⟩
theorem q_678 : Cond.instanceMethod yX8_edge ∈ wU := List.mem_filter.mpr ⟨tb_3 _ (List.mem_of_getElem? (i := 122) rfl), rfl⟩
theorem q_679 : Cond.selects RX8 yX8_edge yX8_edge ∈ wU := List.mem_filter.mpr ⟨tb_3 _ (List.mem_of_getElem? (i := 123) rfl), rfl⟩
theorem q_680 : Cond.code yX8_edge cX8_edge 3 (some .int) ∈ wU := List.mem_filter.mpr ⟨tb_3 _ (List.mem_of_getElem? (i := 124) rfl), rfl⟩
theorem q_681 : Cond.methodLink RX8 208 yX1_between ∈ wU := List.mem_filter.mpr ⟨tb_3 _ (List.mem_of_getElem? (i := 125) rfl), rfl⟩
theorem q_682 : Cond.instanceMethod yX1_between ∈ wU := List.mem_filter.mpr ⟨tb_3 _ (List.mem_of_getElem? (i := 126) rfl), rfl⟩
theorem q_683 : Cond.selects RX1 yX1_between yX1_between ∈ wU := List.mem_filter.mpr ⟨tb_3 _ (List.mem_of_getElem? (i := 127) rfl), rfl⟩
theorem q_684 : Cond.code yX1_between cX1_between 3 (some .int) ∈ wU := List.mem_filter.mpr ⟨tb_3 _ (List.mem_of_getElem? (i := 128) rfl), rfl⟩
theorem q_685 : Cond.methodLink RL 69 yX9_edge ∈ wU := List.mem_filter.mpr ⟨tb_5 _ (List.mem_of_getElem? (i := 43) rfl), rfl⟩
theorem q_686 : Cond.instanceMethod yX9_edge ∈ wU := List.mem_filter.mpr ⟨tb_5 _ (List.mem_of_getElem? (i := 44) rfl), rfl⟩
theorem q_687 : Cond.selects RX9 yX9_edge yX9_edge ∈ wU := List.mem_filter.mpr ⟨tb_5 _ (List.mem_of_getElem? (i := 45) rfl), rfl⟩
theorem q_688 : Cond.code yX9_edge cX9_edge 4 (some .int) ∈ wU := List.mem_filter.mpr ⟨tb_5 _ (List.mem_of_getElem? (i := 46) rfl), rfl⟩
theorem q_689 : Cond.methodLink RL 70 yX8_stretch ∈ wU := List.mem_filter.mpr ⟨tb_3 _ (List.mem_of_getElem? (i := 129) rfl), rfl⟩
theorem q_690 : Cond.instanceMethod yX8_stretch ∈ wU := List.mem_filter.mpr ⟨tb_3 _ (List.mem_of_getElem? (i := 130) rfl), rfl⟩
theorem q_691 : Cond.selects RX8 yX8_stretch yX8_stretch ∈ wU := List.mem_filter.mpr ⟨tb_3 _ (List.mem_of_getElem? (i := 131) rfl), rfl⟩
theorem q_692 : Cond.code yX8_stretch cX8_stretch 8 (some .int) ∈ wU := List.mem_filter.mpr ⟨tb_3 _ (List.mem_of_getElem? (i := 132) rfl), rfl⟩
theorem q_693 : Cond.methodLink RX8 211 yX6_stretchBegin ∈ wU := List.mem_filter.mpr ⟨tb_3 _ (List.mem_of_getElem? (i := 133) rfl), rfl⟩
theorem q_694 : Cond.methodLink RX8 215 yX6_stretchEnd ∈ wU := List.mem_filter.mpr ⟨tb_3 _ (List.mem_of_getElem? (i := 134) rfl), rfl⟩
theorem q_695 : Cond.methodLink RX8 218 yX2_less ∈ wU := List.mem_filter.mpr ⟨tb_3 _ (List.mem_of_getElem? (i := 135) rfl), rfl⟩
theorem q_696 : Cond.methodLink RX8 224 yX2_part ∈ wU := List.mem_filter.mpr ⟨tb_3 _ (List.mem_of_getElem? (i := 136) rfl), rfl⟩
theorem q_697 : Cond.static yX2_part ∈ wU := List.mem_filter.mpr ⟨tb_3 _ (List.mem_of_getElem? (i := 137) rfl), rfl⟩
theorem q_698 : Cond.code yX2_part cX2_part 3 (some .int) ∈ wU := List.mem_filter.mpr ⟨tb_3 _ (List.mem_of_getElem? (i := 138) rfl), rfl⟩
theorem q_699 : Cond.methodLink RL 73 yX9_stretch ∈ wU := List.mem_filter.mpr ⟨tb_5 _ (List.mem_of_getElem? (i := 47) rfl), rfl⟩
theorem q_700 : Cond.instanceMethod yX9_stretch ∈ wU := List.mem_filter.mpr ⟨tb_5 _ (List.mem_of_getElem? (i := 48) rfl), rfl⟩
theorem q_701 : Cond.selects RX9 yX9_stretch yX9_stretch ∈ wU := List.mem_filter.mpr ⟨tb_5 _ (List.mem_of_getElem? (i := 49) rfl), rfl⟩
theorem q_702 : Cond.code yX9_stretch cX9_stretch 4 (some .int) ∈ wU := List.mem_filter.mpr ⟨tb_5 _ (List.mem_of_getElem? (i := 50) rfl), rfl⟩
theorem q_703 : Cond.methodLink RX9 222 yX9_fraction ∈ wU := List.mem_filter.mpr ⟨tb_5 _ (List.mem_of_getElem? (i := 51) rfl), rfl⟩
theorem q_704 : Cond.static yX9_fraction ∈ wU := List.mem_filter.mpr ⟨tb_5 _ (List.mem_of_getElem? (i := 52) rfl), rfl⟩
theorem q_705 : Cond.code yX9_fraction cX9_fraction 7 (some .int) ∈ wU := List.mem_filter.mpr ⟨tb_5 _ (List.mem_of_getElem? (i := 53) rfl), rfl⟩
theorem q_706 : Cond.methodLink RL 74 yX8_hidden ∈ wU := List.mem_filter.mpr ⟨tb_3 _ (List.mem_of_getElem? (i := 139) rfl), rfl⟩
theorem q_707 : Cond.instanceMethod yX8_hidden ∈ wU := List.mem_filter.mpr ⟨tb_3 _ (List.mem_of_getElem? (i := 140) rfl), rfl⟩
theorem q_708 : Cond.selects RX8 yX8_hidden yX8_hidden ∈ wU := List.mem_filter.mpr ⟨tb_3 _ (List.mem_of_getElem? (i := 141) rfl), rfl⟩
theorem q_709 : Cond.code yX8_hidden cX8_hidden 4 (some .int) ∈ wU := List.mem_filter.mpr ⟨tb_3 _ (List.mem_of_getElem? (i := 142) rfl), rfl⟩
theorem q_710 : Cond.methodLink RL 77 yX9_hidden ∈ wU := List.mem_filter.mpr ⟨tb_5 _ (List.mem_of_getElem? (i := 54) rfl), rfl⟩
theorem q_711 : Cond.instanceMethod yX9_hidden ∈ wU := List.mem_filter.mpr ⟨tb_5 _ (List.mem_of_getElem? (i := 55) rfl), rfl⟩
theorem q_712 : Cond.selects RX9 yX9_hidden yX9_hidden ∈ wU := List.mem_filter.mpr ⟨tb_5 _ (List.mem_of_getElem? (i := 56) rfl), rfl⟩
theorem q_713 : Cond.code yX9_hidden cX9_hidden 6 (some .int) ∈ wU := List.mem_filter.mpr ⟨tb_5 _ (List.mem_of_getElem? (i := 57) rfl), rfl⟩
theorem q_714 : Cond.methodLink RX9 226 yX9_hides ∈ wU := List.mem_filter.mpr ⟨tb_5 _ (List.mem_of_getElem? (i := 58) rfl), rfl⟩
theorem q_715 : Cond.instanceMethod yX9_hides ∈ wU := List.mem_filter.mpr ⟨tb_5 _ (List.mem_of_getElem? (i := 60) rfl), rfl⟩
theorem q_716 : Cond.selects RX9 yX9_hides yX9_hides ∈ wU := List.mem_filter.mpr ⟨pb_4 (⟨"HiddenEdgesModel", "hides", "(IIII)Z"⟩, 39) (List.mem_of_getElem? (i := 0) rfl), rfl⟩
theorem q_717 : Cond.code yX9_hides cX9_hides 6 (some .boolean) ∈ wU := List.mem_filter.mpr ⟨tb_5 _ (List.mem_of_getElem? (i := 61) rfl), rfl⟩
theorem q_718 : Cond.methodLink RL 78 yX8_piece ∈ wU := List.mem_filter.mpr ⟨tb_3 _ (List.mem_of_getElem? (i := 143) rfl), rfl⟩
theorem q_719 : Cond.instanceMethod yX8_piece ∈ wU := List.mem_filter.mpr ⟨tb_3 _ (List.mem_of_getElem? (i := 144) rfl), rfl⟩
theorem q_720 : Cond.selects RX8 yX8_piece yX8_piece ∈ wU := List.mem_filter.mpr ⟨tb_3 _ (List.mem_of_getElem? (i := 145) rfl), rfl⟩
theorem q_721 : Cond.code yX8_piece cX8_piece 4 (some .int) ∈ wU := List.mem_filter.mpr ⟨tb_3 _ (List.mem_of_getElem? (i := 146) rfl), rfl⟩
theorem q_722 : Cond.fieldLink RX8 228 "HiddenEdges$Cuts" "at" "[J" ∈ wU := List.mem_filter.mpr ⟨tb_1 _ (List.mem_of_getElem? (i := 160) rfl), rfl⟩
theorem q_723 : Cond.fieldLink RX8 232 "HiddenEdges$Cuts" "quantity" "[I" ∈ wU := List.mem_filter.mpr ⟨tb_1 _ (List.mem_of_getElem? (i := 163) rfl), rfl⟩
theorem q_724 : Cond.methodLink RL 81 yX9_piece ∈ wU := List.mem_filter.mpr ⟨tb_5 _ (List.mem_of_getElem? (i := 62) rfl), rfl⟩
theorem q_725 : Cond.instanceMethod yX9_piece ∈ wU := List.mem_filter.mpr ⟨tb_5 _ (List.mem_of_getElem? (i := 63) rfl), rfl⟩
theorem q_726 : Cond.selects RX9 yX9_piece yX9_piece ∈ wU := List.mem_filter.mpr ⟨tb_5 _ (List.mem_of_getElem? (i := 64) rfl), rfl⟩
theorem q_727 : Cond.code yX9_piece cX9_piece 5 (some .int) ∈ wU := List.mem_filter.mpr ⟨tb_5 _ (List.mem_of_getElem? (i := 65) rfl), rfl⟩
theorem q_728 : Cond.methodLink RL 82 yX8_crossing ∈ wU := List.mem_filter.mpr ⟨tb_3 _ (List.mem_of_getElem? (i := 147) rfl), rfl⟩
theorem q_729 : Cond.instanceMethod yX8_crossing ∈ wU := List.mem_filter.mpr ⟨tb_3 _ (List.mem_of_getElem? (i := 148) rfl), rfl⟩
theorem q_730 : Cond.selects RX8 yX8_crossing yX8_crossing ∈ wU := List.mem_filter.mpr ⟨tb_3 _ (List.mem_of_getElem? (i := 149) rfl), rfl⟩
theorem q_731 : Cond.code yX8_crossing cX8_crossing 5 (some .int) ∈ wU := List.mem_filter.mpr ⟨tb_3 _ (List.mem_of_getElem? (i := 150) rfl), rfl⟩
theorem q_732 : Cond.fieldLink RX8 239 "HiddenEdges$Meeting" "lead" "I" ∈ wU := List.mem_filter.mpr ⟨tb_2 _ (List.mem_of_getElem? (i := 10) rfl), rfl⟩
theorem q_733 : Cond.fieldLink RX8 242 "HiddenEdges$Meeting" "upOnFirst" "I" ∈ wU := List.mem_filter.mpr ⟨tb_2 _ (List.mem_of_getElem? (i := 4) rfl), rfl⟩
theorem q_734 : Cond.fieldLink RX8 245 "HiddenEdges$Meeting" "upOnSecond" "I" ∈ wU := List.mem_filter.mpr ⟨tb_2 _ (List.mem_of_getElem? (i := 6) rfl), rfl⟩
theorem q_735 : Cond.fieldLink RX8 248 "HiddenEdges$Meeting" "down" "I" ∈ wU := List.mem_filter.mpr ⟨tb_2 _ (List.mem_of_getElem? (i := 8) rfl), rfl⟩
theorem q_736 : Cond.methodLink RX8 235 yX3_find ∈ wU := List.mem_filter.mpr ⟨tb_3 _ (List.mem_of_getElem? (i := 151) rfl), rfl⟩
theorem q_737 : Cond.instanceMethod yX3_find ∈ wU := List.mem_filter.mpr ⟨tb_3 _ (List.mem_of_getElem? (i := 152) rfl), rfl⟩
theorem q_738 : Cond.selects RX3 yX3_find yX3_find ∈ wU := List.mem_filter.mpr ⟨tb_3 _ (List.mem_of_getElem? (i := 153) rfl), rfl⟩
theorem q_739 : Cond.code yX3_find cX3_find 13 (some .boolean) ∈ wU := List.mem_filter.mpr ⟨tb_3 _ (List.mem_of_getElem? (i := 154) rfl), rfl⟩
theorem q_740 : Cond.fieldLink RX3 7 "HiddenEdges$Edges" "low" "[I" ∈ wU := List.mem_filter.mpr ⟨tb_1 _ (List.mem_of_getElem? (i := 114) rfl), rfl⟩
theorem q_741 : Cond.fieldLink RX3 13 "HiddenEdges$Edges" "high" "[I" ∈ wU := List.mem_filter.mpr ⟨tb_1 _ (List.mem_of_getElem? (i := 119) rfl), rfl⟩
theorem q_742 : Cond.methodLink RX3 28 Lib.Math.abs.name ∈ wU := List.mem_filter.mpr ⟨tb_3 _ (List.mem_of_getElem? (i := 159) rfl), rfl⟩
theorem q_743 : Cond.fieldLink RX3 34 "HiddenEdges$Meeting" "upOnFirst" "I" ∈ wU := List.mem_filter.mpr ⟨tb_2 _ (List.mem_of_getElem? (i := 3) rfl), rfl⟩
theorem q_744 : Cond.fieldLink RX3 38 "HiddenEdges$Meeting" "upOnSecond" "I" ∈ wU := List.mem_filter.mpr ⟨tb_2 _ (List.mem_of_getElem? (i := 5) rfl), rfl⟩
theorem q_745 : Cond.fieldLink RX3 41 "HiddenEdges$Meeting" "down" "I" ∈ wU := List.mem_filter.mpr ⟨tb_2 _ (List.mem_of_getElem? (i := 7) rfl), rfl⟩
theorem q_746 : Cond.fieldLink RX3 44 "HiddenEdges$Sight" "height" "[I" ∈ wU := List.mem_filter.mpr ⟨tb_1 _ (List.mem_of_getElem? (i := 82) rfl), rfl⟩
theorem q_747 : Cond.fieldLink RX3 47 "HiddenEdges$Meeting" "lead" "I" ∈ wU := List.mem_filter.mpr ⟨tb_2 _ (List.mem_of_getElem? (i := 9) rfl), rfl⟩
theorem q_748 : Cond.methodLink RX3 16 yX6_turnOf ∈ wU := List.mem_filter.mpr ⟨tb_3 _ (List.mem_of_getElem? (i := 155) rfl), rfl⟩
theorem q_749 : Cond.methodLink RX3 22 yX3_areOpposite ∈ wU := List.mem_filter.mpr ⟨tb_3 _ (List.mem_of_getElem? (i := 156) rfl), rfl⟩
theorem q_750 : Cond.static yX3_areOpposite ∈ wU := List.mem_filter.mpr ⟨tb_3 _ (List.mem_of_getElem? (i := 157) rfl), rfl⟩
theorem q_751 : Cond.code yX3_areOpposite cX3_areOpposite 2 (some .boolean) ∈ wU := List.mem_filter.mpr ⟨tb_3 _ (List.mem_of_getElem? (i := 158) rfl), rfl⟩
theorem q_752 : Cond.methodLink RX8 251 yX2_of ∈ wU := List.mem_filter.mpr ⟨tb_3 _ (List.mem_of_getElem? (i := 160) rfl), rfl⟩
theorem q_753 : Cond.methodLink RX8 255 yX2_lowest ∈ wU := List.mem_filter.mpr ⟨tb_3 _ (List.mem_of_getElem? (i := 161) rfl), rfl⟩
theorem q_754 : Cond.methodLink RL 85 yX9_crossing ∈ wU := List.mem_filter.mpr ⟨tb_5 _ (List.mem_of_getElem? (i := 66) rfl), rfl⟩
theorem q_755 : Cond.instanceMethod yX9_crossing ∈ wU := List.mem_filter.mpr ⟨tb_5 _ (List.mem_of_getElem? (i := 67) rfl), rfl⟩
theorem q_756 : Cond.selects RX9 yX9_crossing yX9_crossing ∈ wU := List.mem_filter.mpr ⟨tb_5 _ (List.mem_of_getElem? (i := 68) rfl), rfl⟩
theorem q_757 : Cond.code yX9_crossing cX9_crossing 4 (some .int) ∈ wU := List.mem_filter.mpr ⟨tb_5 _ (List.mem_of_getElem? (i := 69) rfl), rfl⟩
theorem q_758 : Cond.fieldLink RX9 239 "HiddenEdgesModel" "crossFar" "J" ∈ wU := List.mem_filter.mpr ⟨tb_4 _ (List.mem_of_getElem? (i := 11) rfl), rfl⟩
theorem q_759 : Cond.fieldLink RX9 233 "HiddenEdgesModel" "crossT" "J" ∈ wU := List.mem_filter.mpr ⟨tb_4 _ (List.mem_of_getElem? (i := 8) rfl), rfl⟩
theorem q_760 : Cond.fieldLink RX9 230 "HiddenEdgesModel" "crossDown" "J" ∈ wU := List.mem_filter.mpr ⟨tb_4 _ (List.mem_of_getElem? (i := 10) rfl), rfl⟩
theorem q_761 : Cond.fieldLink RX9 236 "HiddenEdgesModel" "crossS" "J" ∈ wU := List.mem_filter.mpr ⟨tb_4 _ (List.mem_of_getElem? (i := 9) rfl), rfl⟩
theorem q_762 : Cond.methodLink RX9 242 yX9_cross ∈ wU := List.mem_filter.mpr ⟨tb_5 _ (List.mem_of_getElem? (i := 70) rfl), rfl⟩
theorem q_763 : Cond.instanceMethod yX9_cross ∈ wU := List.mem_filter.mpr ⟨tb_5 _ (List.mem_of_getElem? (i := 72) rfl), rfl⟩
theorem q_764 : Cond.selects RX9 yX9_cross yX9_cross ∈ wU := List.mem_filter.mpr ⟨pb_4 (⟨"HiddenEdgesModel", "cross", "(II)Z"⟩, 39) (List.mem_of_getElem? (i := 1) rfl), rfl⟩
theorem q_765 : Cond.code yX9_cross cX9_cross 13 (some .boolean) ∈ wU := List.mem_filter.mpr ⟨tb_5 _ (List.mem_of_getElem? (i := 73) rfl), rfl⟩
theorem q_766 : Cond.methodLink RL 86 yX8_stroke ∈ wU := List.mem_filter.mpr ⟨tb_3 _ (List.mem_of_getElem? (i := 162) rfl), rfl⟩
theorem q_767 : Cond.instanceMethod yX8_stroke ∈ wU := List.mem_filter.mpr ⟨tb_3 _ (List.mem_of_getElem? (i := 163) rfl), rfl⟩
theorem q_768 : Cond.selects RX8 yX8_stroke yX8_stroke ∈ wU := List.mem_filter.mpr ⟨tb_3 _ (List.mem_of_getElem? (i := 164) rfl), rfl⟩
theorem q_769 : Cond.code yX8_stroke cX8_stroke 3 (some .int) ∈ wU := List.mem_filter.mpr ⟨tb_3 _ (List.mem_of_getElem? (i := 165) rfl), rfl⟩
theorem q_770 : Cond.methodLink RX8 259 yX7_has ∈ wU := List.mem_filter.mpr ⟨tb_3 _ (List.mem_of_getElem? (i := 166) rfl), rfl⟩
theorem q_771 : Cond.instanceMethod yX7_has ∈ wU := List.mem_filter.mpr ⟨tb_3 _ (List.mem_of_getElem? (i := 167) rfl), rfl⟩
theorem q_772 : Cond.selects RX7 yX7_has yX7_has ∈ wU := List.mem_filter.mpr ⟨tb_3 _ (List.mem_of_getElem? (i := 168) rfl), rfl⟩
theorem q_773 : Cond.code yX7_has cX7_has 2 (some .boolean) ∈ wU := List.mem_filter.mpr ⟨tb_3 _ (List.mem_of_getElem? (i := 169) rfl), rfl⟩
theorem q_774 : Cond.methodLink RX8 260 yX7_length ∈ wU := List.mem_filter.mpr ⟨tb_3 _ (List.mem_of_getElem? (i := 170) rfl), rfl⟩
theorem q_775 : Cond.instanceMethod yX7_length ∈ wU := List.mem_filter.mpr ⟨tb_3 _ (List.mem_of_getElem? (i := 171) rfl), rfl⟩
theorem q_776 : Cond.selects RX7 yX7_length yX7_length ∈ wU := List.mem_filter.mpr ⟨tb_3 _ (List.mem_of_getElem? (i := 172) rfl), rfl⟩
theorem q_777 : Cond.code yX7_length cX7_length 2 (some .int) ∈ wU := List.mem_filter.mpr ⟨tb_3 _ (List.mem_of_getElem? (i := 173) rfl), rfl⟩
theorem q_778 : Cond.methodLink RX8 263 yX7_startPoint ∈ wU := List.mem_filter.mpr ⟨tb_3 _ (List.mem_of_getElem? (i := 174) rfl), rfl⟩
theorem q_779 : Cond.instanceMethod yX7_startPoint ∈ wU := List.mem_filter.mpr ⟨tb_3 _ (List.mem_of_getElem? (i := 175) rfl), rfl⟩
theorem q_780 : Cond.selects RX7 yX7_startPoint yX7_startPoint ∈ wU := List.mem_filter.mpr ⟨tb_3 _ (List.mem_of_getElem? (i := 176) rfl), rfl⟩
theorem q_781 : Cond.code yX7_startPoint cX7_startPoint 4 (some .int) ∈ wU := List.mem_filter.mpr ⟨tb_3 _ (List.mem_of_getElem? (i := 177) rfl), rfl⟩
theorem q_782 : Cond.methodLink RX8 267 yX7_endPoint ∈ wU := List.mem_filter.mpr ⟨tb_3 _ (List.mem_of_getElem? (i := 178) rfl), rfl⟩
theorem q_783 : Cond.instanceMethod yX7_endPoint ∈ wU := List.mem_filter.mpr ⟨tb_3 _ (List.mem_of_getElem? (i := 179) rfl), rfl⟩
theorem q_784 : Cond.selects RX7 yX7_endPoint yX7_endPoint ∈ wU := List.mem_filter.mpr ⟨tb_3 _ (List.mem_of_getElem? (i := 180) rfl), rfl⟩
theorem q_785 : Cond.code yX7_endPoint cX7_endPoint 4 (some .int) ∈ wU := List.mem_filter.mpr ⟨tb_3 _ (List.mem_of_getElem? (i := 181) rfl), rfl⟩
theorem q_786 : Cond.methodLink RX7 41 yX7_length ∈ wU := List.mem_filter.mpr ⟨tb_3 _ (List.mem_of_getElem? (i := 182) rfl), rfl⟩
theorem q_787 : Cond.methodLink RL 89 yX9_stroke ∈ wU := List.mem_filter.mpr ⟨tb_5 _ (List.mem_of_getElem? (i := 74) rfl), rfl⟩
theorem q_788 : Cond.instanceMethod yX9_stroke ∈ wU := List.mem_filter.mpr ⟨tb_5 _ (List.mem_of_getElem? (i := 75) rfl), rfl⟩
theorem q_789 : Cond.selects RX9 yX9_stroke yX9_stroke ∈ wU := List.mem_filter.mpr ⟨tb_5 _ (List.mem_of_getElem? (i := 76) rfl), rfl⟩
theorem q_790 : Cond.code yX9_stroke cX9_stroke 5 (some .int) ∈ wU := List.mem_filter.mpr ⟨tb_5 _ (List.mem_of_getElem? (i := 77) rfl), rfl⟩
theorem q_791 : Cond.methodLink RX9 265 yX9_isStroke ∈ wU := List.mem_filter.mpr ⟨tb_5 _ (List.mem_of_getElem? (i := 78) rfl), rfl⟩
theorem q_792 : Cond.instanceMethod yX9_isStroke ∈ wU := List.mem_filter.mpr ⟨tb_5 _ (List.mem_of_getElem? (i := 80) rfl), rfl⟩
theorem q_793 : Cond.selects RX9 yX9_isStroke yX9_isStroke ∈ wU := List.mem_filter.mpr ⟨pb_4 (⟨"HiddenEdgesModel", "isStroke", "(I)Z"⟩, 39) (List.mem_of_getElem? (i := 2) rfl), rfl⟩
theorem q_794 : Cond.code yX9_isStroke cX9_isStroke 2 (some .boolean) ∈ wU := List.mem_filter.mpr ⟨tb_5 _ (List.mem_of_getElem? (i := 81) rfl), rfl⟩
theorem q_795 : Cond.methodLink RL 90 yX8_strokePiece ∈ wU := List.mem_filter.mpr ⟨tb_3 _ (List.mem_of_getElem? (i := 183) rfl), rfl⟩
theorem q_796 : Cond.instanceMethod yX8_strokePiece ∈ wU := List.mem_filter.mpr ⟨tb_3 _ (List.mem_of_getElem? (i := 184) rfl), rfl⟩
theorem q_797 : Cond.selects RX8 yX8_strokePiece yX8_strokePiece ∈ wU := List.mem_filter.mpr ⟨tb_3 _ (List.mem_of_getElem? (i := 185) rfl), rfl⟩
theorem q_798 : Cond.code yX8_strokePiece cX8_strokePiece 5 (some .int) ∈ wU := List.mem_filter.mpr ⟨tb_3 _ (List.mem_of_getElem? (i := 186) rfl), rfl⟩
theorem q_799 : Cond.fieldLink RX8 271 "HiddenEdges$Strokes" "step" "[I" ∈ wU := List.mem_filter.mpr ⟨tb_1 _ (List.mem_of_getElem? (i := 221) rfl), rfl⟩
theorem q_800 : Cond.fieldLink RX8 274 "HiddenEdges$Strokes" "first" "[I" ∈ wU := List.mem_filter.mpr ⟨tb_1 _ (List.mem_of_getElem? (i := 223) rfl), rfl⟩
theorem q_801 : Cond.methodLink RX8 277 yX7_edgeOf ∈ wU := List.mem_filter.mpr ⟨tb_3 _ (List.mem_of_getElem? (i := 187) rfl), rfl⟩
theorem q_802 : Cond.methodLink RX8 280 yX7_pieceOf ∈ wU := List.mem_filter.mpr ⟨tb_3 _ (List.mem_of_getElem? (i := 188) rfl), rfl⟩
theorem q_803 : Cond.methodLink RX8 283 yX7_isForward ∈ wU := List.mem_filter.mpr ⟨tb_3 _ (List.mem_of_getElem? (i := 189) rfl), rfl⟩
theorem q_804 : Cond.methodLink RL 93 yX9_strokePiece ∈ wU := List.mem_filter.mpr ⟨tb_5 _ (List.mem_of_getElem? (i := 82) rfl), rfl⟩
theorem q_805 : Cond.instanceMethod yX9_strokePiece ∈ wU := List.mem_filter.mpr ⟨tb_5 _ (List.mem_of_getElem? (i := 83) rfl), rfl⟩
theorem q_806 : Cond.selects RX9 yX9_strokePiece yX9_strokePiece ∈ wU := List.mem_filter.mpr ⟨tb_5 _ (List.mem_of_getElem? (i := 84) rfl), rfl⟩
theorem q_807 : Cond.code yX9_strokePiece cX9_strokePiece 5 (some .int) ∈ wU := List.mem_filter.mpr ⟨tb_5 _ (List.mem_of_getElem? (i := 85) rfl), rfl⟩
theorem q_808 : Cond.methodLink RL 94 yX8_many ∈ wU := List.mem_filter.mpr ⟨tb_3 _ (List.mem_of_getElem? (i := 190) rfl), rfl⟩
theorem q_809 : Cond.instanceMethod yX8_many ∈ wU := List.mem_filter.mpr ⟨tb_3 _ (List.mem_of_getElem? (i := 191) rfl), rfl⟩
theorem q_810 : Cond.selects RX8 yX8_many yX8_many ∈ wU := List.mem_filter.mpr ⟨tb_3 _ (List.mem_of_getElem? (i := 192) rfl), rfl⟩
theorem q_811 : Cond.code yX8_many cX8_many 2 (some .int) ∈ wU := List.mem_filter.mpr ⟨tb_3 _ (List.mem_of_getElem? (i := 193) rfl), rfl⟩
theorem q_812 : Cond.fieldLink RX8 289 "HiddenEdges$Edges" "count" "I" ∈ wU := List.mem_filter.mpr ⟨tb_1 _ (List.mem_of_getElem? (i := 132) rfl), rfl⟩
theorem q_813 : Cond.fieldLink RX8 292 "HiddenEdges$Pieces" "all" "I" ∈ wU := List.mem_filter.mpr ⟨tb_1 _ (List.mem_of_getElem? (i := 196) rfl), rfl⟩
theorem q_814 : Cond.fieldLink RX8 295 "HiddenEdges$Pieces" "allVisible" "I" ∈ wU := List.mem_filter.mpr ⟨tb_1 _ (List.mem_of_getElem? (i := 198) rfl), rfl⟩
theorem q_815 : Cond.fieldLink RX8 301 "HiddenEdges$Strokes" "count" "I" ∈ wU := List.mem_filter.mpr ⟨tb_1 _ (List.mem_of_getElem? (i := 225) rfl), rfl⟩
theorem q_816 : Cond.fieldLink RX8 308 "HiddenEdges$Pieces" "greatest" "I" ∈ wU := List.mem_filter.mpr ⟨tb_1 _ (List.mem_of_getElem? (i := 200) rfl), rfl⟩
theorem q_817 : Cond.methodLink RX8 286 yX8_levelFor ∈ wU := List.mem_filter.mpr ⟨tb_3 _ (List.mem_of_getElem? (i := 194) rfl), rfl⟩
theorem q_818 : Cond.static yX8_levelFor ∈ wU := List.mem_filter.mpr ⟨tb_3 _ (List.mem_of_getElem? (i := 195) rfl), rfl⟩
theorem q_819 : Cond.code yX8_levelFor cX8_levelFor 1 (some .int) ∈ wU := List.mem_filter.mpr ⟨tb_3 _ (List.mem_of_getElem? (i := 196) rfl), rfl⟩
theorem q_820 : Cond.methodLink RX8 298 yX1_countSort ∈ wU := List.mem_filter.mpr ⟨tb_3 _ (List.mem_of_getElem? (i := 197) rfl), rfl⟩
theorem q_821 : Cond.instanceMethod yX1_countSort ∈ wU := List.mem_filter.mpr ⟨tb_3 _ (List.mem_of_getElem? (i := 198) rfl), rfl⟩
theorem q_822 : Cond.selects RX1 yX1_countSort yX1_countSort ∈ wU := List.mem_filter.mpr ⟨tb_3 _ (List.mem_of_getElem? (i := 199) rfl), rfl⟩
theorem q_823 : Cond.code yX1_countSort cX1_countSort 4 (some .int) ∈ wU := List.mem_filter.mpr ⟨tb_3 _ (List.mem_of_getElem? (i := 200) rfl), rfl⟩
theorem q_824 : Cond.methodLink RX8 302 yX6_countToEye ∈ wU := List.mem_filter.mpr ⟨tb_3 _ (List.mem_of_getElem? (i := 201) rfl), rfl⟩
theorem q_825 : Cond.instanceMethod yX6_countToEye ∈ wU := List.mem_filter.mpr ⟨tb_3 _ (List.mem_of_getElem? (i := 202) rfl), rfl⟩
theorem q_826 : Cond.selects RX6 yX6_countToEye yX6_countToEye ∈ wU := List.mem_filter.mpr ⟨tb_3 _ (List.mem_of_getElem? (i := 203) rfl), rfl⟩
theorem q_827 : Cond.code yX6_countToEye cX6_countToEye 3 (some .int) ∈ wU := List.mem_filter.mpr ⟨tb_3 _ (List.mem_of_getElem? (i := 204) rfl), rfl⟩
theorem q_828 : Cond.methodLink RX8 305 yX8_countMeetings ∈ wU := List.mem_filter.mpr ⟨tb_3 _ (List.mem_of_getElem? (i := 205) rfl), rfl⟩
theorem q_829 : Cond.instanceMethod yX8_countMeetings ∈ wU := List.mem_filter.mpr ⟨tb_3 _ (List.mem_of_getElem? (i := 207) rfl), rfl⟩
theorem q_830 : Cond.selects RX8 yX8_countMeetings yX8_countMeetings ∈ wU := List.mem_filter.mpr ⟨pb_2 (⟨"HiddenEdges", "countMeetings", "()I"⟩, 10) (List.mem_of_getElem? (i := 0) rfl), rfl⟩
theorem q_831 : Cond.code yX8_countMeetings cX8_countMeetings 1 (some .int) ∈ wU := List.mem_filter.mpr ⟨tb_3 _ (List.mem_of_getElem? (i := 208) rfl), rfl⟩
theorem q_832 : Cond.methodLink RX8 327 yX3_countAll ∈ wU := List.mem_filter.mpr ⟨tb_3 _ (List.mem_of_getElem? (i := 209) rfl), rfl⟩
theorem q_833 : Cond.instanceMethod yX3_countAll ∈ wU := List.mem_filter.mpr ⟨tb_3 _ (List.mem_of_getElem? (i := 210) rfl), rfl⟩
theorem q_834 : Cond.selects RX3 yX3_countAll yX3_countAll ∈ wU := List.mem_filter.mpr ⟨tb_3 _ (List.mem_of_getElem? (i := 211) rfl), rfl⟩
theorem q_835 : Cond.code yX3_countAll cX3_countAll 6 (some .int) ∈ wU := List.mem_filter.mpr ⟨tb_3 _ (List.mem_of_getElem? (i := 212) rfl), rfl⟩
theorem q_836 : Cond.fieldLink RX3 50 "HiddenEdges$Edges" "count" "I" ∈ wU := List.mem_filter.mpr ⟨tb_1 _ (List.mem_of_getElem? (i := 130) rfl), rfl⟩
theorem q_837 : Cond.methodLink RX3 53 yX3_find ∈ wU := List.mem_filter.mpr ⟨tb_3 _ (List.mem_of_getElem? (i := 213) rfl), rfl⟩
theorem q_838 : Cond.methodLink RL 97 yX9_many ∈ wU := List.mem_filter.mpr ⟨tb_5 _ (List.mem_of_getElem? (i := 86) rfl), rfl⟩
theorem q_839 : Cond.instanceMethod yX9_many ∈ wU := List.mem_filter.mpr ⟨tb_5 _ (List.mem_of_getElem? (i := 87) rfl), rfl⟩
theorem q_840 : Cond.selects RX9 yX9_many yX9_many ∈ wU := List.mem_filter.mpr ⟨tb_5 _ (List.mem_of_getElem? (i := 88) rfl), rfl⟩
theorem q_841 : Cond.code yX9_many cX9_many 2 (some .int) ∈ wU := List.mem_filter.mpr ⟨tb_5 _ (List.mem_of_getElem? (i := 89) rfl), rfl⟩
theorem q_842 : Cond.methodLink RX9 268 yX9_manyEdges ∈ wU := List.mem_filter.mpr ⟨tb_5 _ (List.mem_of_getElem? (i := 90) rfl), rfl⟩
theorem q_843 : Cond.instanceMethod yX9_manyEdges ∈ wU := List.mem_filter.mpr ⟨tb_5 _ (List.mem_of_getElem? (i := 92) rfl), rfl⟩
theorem q_844 : Cond.selects RX9 yX9_manyEdges yX9_manyEdges ∈ wU := List.mem_filter.mpr ⟨pb_4 (⟨"HiddenEdgesModel", "manyEdges", "(I)I"⟩, 39) (List.mem_of_getElem? (i := 3) rfl), rfl⟩
theorem q_845 : Cond.code yX9_manyEdges cX9_manyEdges 4 (some .int) ∈ wU := List.mem_filter.mpr ⟨tb_5 _ (List.mem_of_getElem? (i := 93) rfl), rfl⟩
theorem q_846 : Cond.methodLink RX9 271 yX9_manyLook ∈ wU := List.mem_filter.mpr ⟨tb_5 _ (List.mem_of_getElem? (i := 94) rfl), rfl⟩
theorem q_847 : Cond.instanceMethod yX9_manyLook ∈ wU := List.mem_filter.mpr ⟨tb_5 _ (List.mem_of_getElem? (i := 96) rfl), rfl⟩
theorem q_848 : Cond.selects RX9 yX9_manyLook yX9_manyLook ∈ wU := List.mem_filter.mpr ⟨pb_4 (⟨"HiddenEdgesModel", "manyLook", "()I"⟩, 39) (List.mem_of_getElem? (i := 4) rfl), rfl⟩
theorem q_849 : Cond.code yX9_manyLook cX9_manyLook 3 (some .int) ∈ wU := List.mem_filter.mpr ⟨tb_5 _ (List.mem_of_getElem? (i := 97) rfl), rfl⟩
theorem q_850 : Cond.methodLink RX9 275 yX9_manyCross ∈ wU := List.mem_filter.mpr ⟨tb_5 _ (List.mem_of_getElem? (i := 98) rfl), rfl⟩
theorem q_851 : Cond.instanceMethod yX9_manyCross ∈ wU := List.mem_filter.mpr ⟨tb_5 _ (List.mem_of_getElem? (i := 100) rfl), rfl⟩
theorem q_852 : Cond.selects RX9 yX9_manyCross yX9_manyCross ∈ wU := List.mem_filter.mpr ⟨pb_4 (⟨"HiddenEdgesModel", "manyCross", "()I"⟩, 39) (List.mem_of_getElem? (i := 5) rfl), rfl⟩
theorem q_853 : Cond.code yX9_manyCross cX9_manyCross 4 (some .int) ∈ wU := List.mem_filter.mpr ⟨tb_5 _ (List.mem_of_getElem? (i := 101) rfl), rfl⟩
theorem q_854 : Cond.methodLink RX9 278 yX9_greatest ∈ wU := List.mem_filter.mpr ⟨tb_5 _ (List.mem_of_getElem? (i := 102) rfl), rfl⟩
theorem q_855 : Cond.instanceMethod yX9_greatest ∈ wU := List.mem_filter.mpr ⟨tb_5 _ (List.mem_of_getElem? (i := 104) rfl), rfl⟩
theorem q_856 : Cond.selects RX9 yX9_greatest yX9_greatest ∈ wU := List.mem_filter.mpr ⟨pb_4 (⟨"HiddenEdgesModel", "greatest", "()I"⟩, 39) (List.mem_of_getElem? (i := 6) rfl), rfl⟩
theorem q_857 : Cond.code yX9_greatest cX9_greatest 4 (some .int) ∈ wU := List.mem_filter.mpr ⟨tb_5 _ (List.mem_of_getElem? (i := 105) rfl), rfl⟩
theorem nest_X4 : Cond.methodLinkNest "HiddenEdges" 11 yX4_init "HiddenEdges" ∈ lw_tbl := tb_1 _ (List.mem_of_getElem? (i := 24) rfl)
theorem nest_X6 : Cond.methodLinkNest "HiddenEdges" 18 yX6_init "HiddenEdges" ∈ lw_tbl := tb_1 _ (List.mem_of_getElem? (i := 69) rfl)
theorem nest_X1 : Cond.methodLinkNest "HiddenEdges" 25 yX1_init "HiddenEdges" ∈ lw_tbl := tb_1 _ (List.mem_of_getElem? (i := 107) rfl)
theorem nest_X0 : Cond.methodLinkNest "HiddenEdges" 32 yX0_init "HiddenEdges" ∈ lw_tbl := tb_1 _ (List.mem_of_getElem? (i := 150) rfl)
theorem nest_X5 : Cond.methodLinkNest "HiddenEdges" 39 yX5_init "HiddenEdges" ∈ lw_tbl := tb_1 _ (List.mem_of_getElem? (i := 187) rfl)
theorem nest_X7 : Cond.methodLinkNest "HiddenEdges" 46 yX7_init "HiddenEdges" ∈ lw_tbl := tb_1 _ (List.mem_of_getElem? (i := 214) rfl)
theorem nest_X3 : Cond.methodLinkNest "HiddenEdges" 53 yX3_init "HiddenEdges" ∈ lw_tbl := tb_1 _ (List.mem_of_getElem? (i := 239) rfl)
theorem inlX0 : ∀ w ∈ wsX00, w ∈ wU := by
  show ∀ w ∈ ([Cond.laysFinal "HiddenEdges$Cuts" "HiddenEdges$Cuts" "begin" "[J", Cond.laysFinal "HiddenEdges$Cuts" "HiddenEdges$Cuts" "end" "[J", Cond.lays "HiddenEdges$Cuts" "HiddenEdges$Cuts" "stretches" "I", Cond.lays "HiddenEdges$Cuts" "HiddenEdges$Cuts" "loaded" "I", Cond.lays "HiddenEdges$Cuts" "HiddenEdges$Cuts" "count" "I", Cond.laysFinal "HiddenEdges$Cuts" "HiddenEdges$Cuts" "at" "[J", Cond.laysFinal "HiddenEdges$Cuts" "HiddenEdges$Cuts" "quantity" "[I", Cond.lays "HiddenEdges$Cuts" "HiddenEdges$Cuts" "visible" "J"] : List Cond), w ∈ wU
  exact List.forall_mem_cons.mpr ⟨List.mem_filter.mpr ⟨tb_1 _ (List.mem_of_getElem? (i := 167) rfl), rfl⟩, List.forall_mem_cons.mpr ⟨List.mem_filter.mpr ⟨tb_1 _ (List.mem_of_getElem? (i := 169) rfl), rfl⟩, List.forall_mem_cons.mpr ⟨List.mem_filter.mpr ⟨tb_1 _ (List.mem_of_getElem? (i := 171) rfl), rfl⟩, List.forall_mem_cons.mpr ⟨List.mem_filter.mpr ⟨tb_1 _ (List.mem_of_getElem? (i := 173) rfl), rfl⟩, List.forall_mem_cons.mpr ⟨List.mem_filter.mpr ⟨tb_1 _ (List.mem_of_getElem? (i := 175) rfl), rfl⟩, List.forall_mem_cons.mpr ⟨List.mem_filter.mpr ⟨tb_1 _ (List.mem_of_getElem? (i := 177) rfl), rfl⟩, List.forall_mem_cons.mpr ⟨List.mem_filter.mpr ⟨tb_1 _ (List.mem_of_getElem? (i := 179) rfl), rfl⟩, List.forall_mem_cons.mpr ⟨List.mem_filter.mpr ⟨tb_1 _ (List.mem_of_getElem? (i := 181) rfl), rfl⟩, fun _ h => absurd h List.not_mem_nil⟩⟩⟩⟩⟩⟩⟩⟩
theorem inlX1 : ∀ w ∈ wsX10, w ∈ wU := by
  show ∀ w ∈ ([Cond.laysFinal "HiddenEdges$Edges" "HiddenEdges$Edges" "number" "[I", Cond.laysFinal "HiddenEdges$Edges" "HiddenEdges$Edges" "shared" "[I", Cond.laysFinal "HiddenEdges$Edges" "HiddenEdges$Edges" "low" "[I", Cond.laysFinal "HiddenEdges$Edges" "HiddenEdges$Edges" "high" "[I", Cond.laysFinal "HiddenEdges$Edges" "HiddenEdges$Edges" "sharing" "[I", Cond.laysFinal "HiddenEdges$Edges" "HiddenEdges$Edges" "sort" "[I", Cond.lays "HiddenEdges$Edges" "HiddenEdges$Edges" "count" "I"] : List Cond), w ∈ wU
  exact List.forall_mem_cons.mpr ⟨List.mem_filter.mpr ⟨tb_1 _ (List.mem_of_getElem? (i := 133) rfl), rfl⟩, List.forall_mem_cons.mpr ⟨List.mem_filter.mpr ⟨tb_1 _ (List.mem_of_getElem? (i := 135) rfl), rfl⟩, List.forall_mem_cons.mpr ⟨List.mem_filter.mpr ⟨tb_1 _ (List.mem_of_getElem? (i := 137) rfl), rfl⟩, List.forall_mem_cons.mpr ⟨List.mem_filter.mpr ⟨tb_1 _ (List.mem_of_getElem? (i := 139) rfl), rfl⟩, List.forall_mem_cons.mpr ⟨List.mem_filter.mpr ⟨tb_1 _ (List.mem_of_getElem? (i := 141) rfl), rfl⟩, List.forall_mem_cons.mpr ⟨List.mem_filter.mpr ⟨tb_1 _ (List.mem_of_getElem? (i := 143) rfl), rfl⟩, List.forall_mem_cons.mpr ⟨List.mem_filter.mpr ⟨tb_1 _ (List.mem_of_getElem? (i := 145) rfl), rfl⟩, fun _ h => absurd h List.not_mem_nil⟩⟩⟩⟩⟩⟩⟩
theorem inlX3 : ∀ w ∈ wsX30, w ∈ wU := by
  show ∀ w ∈ ([Cond.lays "HiddenEdges$Meeting" "HiddenEdges$Meeting" "upOnFirst" "I", Cond.lays "HiddenEdges$Meeting" "HiddenEdges$Meeting" "upOnSecond" "I", Cond.lays "HiddenEdges$Meeting" "HiddenEdges$Meeting" "down" "I", Cond.lays "HiddenEdges$Meeting" "HiddenEdges$Meeting" "lead" "I"] : List Cond), w ∈ wU
  exact List.forall_mem_cons.mpr ⟨List.mem_filter.mpr ⟨tb_2 _ (List.mem_of_getElem? (i := 11) rfl), rfl⟩, List.forall_mem_cons.mpr ⟨List.mem_filter.mpr ⟨tb_2 _ (List.mem_of_getElem? (i := 13) rfl), rfl⟩, List.forall_mem_cons.mpr ⟨List.mem_filter.mpr ⟨tb_2 _ (List.mem_of_getElem? (i := 15) rfl), rfl⟩, List.forall_mem_cons.mpr ⟨List.mem_filter.mpr ⟨tb_2 _ (List.mem_of_getElem? (i := 17) rfl), rfl⟩, fun _ h => absurd h List.not_mem_nil⟩⟩⟩⟩
theorem inlX4 : ∀ w ∈ wsX40, w ∈ wU := by
  show ∀ w ∈ ([Cond.laysFinal "HiddenEdges$Mesh" "HiddenEdges$Mesh" "x" "[I", Cond.laysFinal "HiddenEdges$Mesh" "HiddenEdges$Mesh" "y" "[I", Cond.laysFinal "HiddenEdges$Mesh" "HiddenEdges$Mesh" "z" "[I", Cond.laysFinal "HiddenEdges$Mesh" "HiddenEdges$Mesh" "corners" "[I", Cond.laysFinal "HiddenEdges$Mesh" "HiddenEdges$Mesh" "wireEnds" "[I", Cond.lays "HiddenEdges$Mesh" "HiddenEdges$Mesh" "points" "I", Cond.lays "HiddenEdges$Mesh" "HiddenEdges$Mesh" "faces" "I", Cond.lays "HiddenEdges$Mesh" "HiddenEdges$Mesh" "wires" "I"] : List Cond), w ∈ wU
  exact List.forall_mem_cons.mpr ⟨List.mem_filter.mpr ⟨tb_1 _ (List.mem_of_getElem? (i := 49) rfl), rfl⟩, List.forall_mem_cons.mpr ⟨List.mem_filter.mpr ⟨tb_1 _ (List.mem_of_getElem? (i := 51) rfl), rfl⟩, List.forall_mem_cons.mpr ⟨List.mem_filter.mpr ⟨tb_1 _ (List.mem_of_getElem? (i := 53) rfl), rfl⟩, List.forall_mem_cons.mpr ⟨List.mem_filter.mpr ⟨tb_1 _ (List.mem_of_getElem? (i := 55) rfl), rfl⟩, List.forall_mem_cons.mpr ⟨List.mem_filter.mpr ⟨tb_1 _ (List.mem_of_getElem? (i := 57) rfl), rfl⟩, List.forall_mem_cons.mpr ⟨List.mem_filter.mpr ⟨tb_1 _ (List.mem_of_getElem? (i := 59) rfl), rfl⟩, List.forall_mem_cons.mpr ⟨List.mem_filter.mpr ⟨tb_1 _ (List.mem_of_getElem? (i := 61) rfl), rfl⟩, List.forall_mem_cons.mpr ⟨List.mem_filter.mpr ⟨tb_1 _ (List.mem_of_getElem? (i := 63) rfl), rfl⟩, fun _ h => absurd h List.not_mem_nil⟩⟩⟩⟩⟩⟩⟩⟩
theorem inlX5 : ∀ w ∈ wsX50, w ∈ wU := by
  show ∀ w ∈ ([Cond.laysFinal "HiddenEdges$Pieces" "HiddenEdges$Pieces" "count" "[I", Cond.laysFinal "HiddenEdges$Pieces" "HiddenEdges$Pieces" "visible" "[J", Cond.lays "HiddenEdges$Pieces" "HiddenEdges$Pieces" "all" "I", Cond.lays "HiddenEdges$Pieces" "HiddenEdges$Pieces" "allVisible" "I", Cond.lays "HiddenEdges$Pieces" "HiddenEdges$Pieces" "greatest" "I"] : List Cond), w ∈ wU
  exact List.forall_mem_cons.mpr ⟨List.mem_filter.mpr ⟨tb_1 _ (List.mem_of_getElem? (i := 201) rfl), rfl⟩, List.forall_mem_cons.mpr ⟨List.mem_filter.mpr ⟨tb_1 _ (List.mem_of_getElem? (i := 203) rfl), rfl⟩, List.forall_mem_cons.mpr ⟨List.mem_filter.mpr ⟨tb_1 _ (List.mem_of_getElem? (i := 205) rfl), rfl⟩, List.forall_mem_cons.mpr ⟨List.mem_filter.mpr ⟨tb_1 _ (List.mem_of_getElem? (i := 207) rfl), rfl⟩, List.forall_mem_cons.mpr ⟨List.mem_filter.mpr ⟨tb_1 _ (List.mem_of_getElem? (i := 209) rfl), rfl⟩, fun _ h => absurd h List.not_mem_nil⟩⟩⟩⟩⟩
theorem inlX6 : ∀ w ∈ wsX60, w ∈ wU := by
  show ∀ w ∈ ([Cond.lays "HiddenEdges$Sight" "HiddenEdges$Sight" "a" "I", Cond.lays "HiddenEdges$Sight" "HiddenEdges$Sight" "b" "I", Cond.lays "HiddenEdges$Sight" "HiddenEdges$Sight" "c" "I", Cond.lays "HiddenEdges$Sight" "HiddenEdges$Sight" "faces" "I", Cond.laysFinal "HiddenEdges$Sight" "HiddenEdges$Sight" "sweep" "[I", Cond.laysFinal "HiddenEdges$Sight" "HiddenEdges$Sight" "normal" "[I", Cond.laysFinal "HiddenEdges$Sight" "HiddenEdges$Sight" "margin" "[I", Cond.laysFinal "HiddenEdges$Sight" "HiddenEdges$Sight" "height" "[I", Cond.laysFinal "HiddenEdges$Sight" "HiddenEdges$Sight" "swing" "[I"] : List Cond), w ∈ wU
  exact List.forall_mem_cons.mpr ⟨List.mem_filter.mpr ⟨tb_1 _ (List.mem_of_getElem? (i := 86) rfl), rfl⟩, List.forall_mem_cons.mpr ⟨List.mem_filter.mpr ⟨tb_1 _ (List.mem_of_getElem? (i := 88) rfl), rfl⟩, List.forall_mem_cons.mpr ⟨List.mem_filter.mpr ⟨tb_1 _ (List.mem_of_getElem? (i := 90) rfl), rfl⟩, List.forall_mem_cons.mpr ⟨List.mem_filter.mpr ⟨tb_1 _ (List.mem_of_getElem? (i := 92) rfl), rfl⟩, List.forall_mem_cons.mpr ⟨List.mem_filter.mpr ⟨tb_1 _ (List.mem_of_getElem? (i := 94) rfl), rfl⟩, List.forall_mem_cons.mpr ⟨List.mem_filter.mpr ⟨tb_1 _ (List.mem_of_getElem? (i := 96) rfl), rfl⟩, List.forall_mem_cons.mpr ⟨List.mem_filter.mpr ⟨tb_1 _ (List.mem_of_getElem? (i := 98) rfl), rfl⟩, List.forall_mem_cons.mpr ⟨List.mem_filter.mpr ⟨tb_1 _ (List.mem_of_getElem? (i := 100) rfl), rfl⟩, List.forall_mem_cons.mpr ⟨List.mem_filter.mpr ⟨tb_1 _ (List.mem_of_getElem? (i := 102) rfl), rfl⟩, fun _ h => absurd h List.not_mem_nil⟩⟩⟩⟩⟩⟩⟩⟩⟩
theorem inlX7 : ∀ w ∈ wsX70, w ∈ wU := by
  show ∀ w ∈ ([Cond.laysFinal "HiddenEdges$Strokes" "HiddenEdges$Strokes" "left" "[J", Cond.lays "HiddenEdges$Strokes" "HiddenEdges$Strokes" "steps" "I", Cond.laysFinal "HiddenEdges$Strokes" "HiddenEdges$Strokes" "step" "[I", Cond.laysFinal "HiddenEdges$Strokes" "HiddenEdges$Strokes" "first" "[I", Cond.lays "HiddenEdges$Strokes" "HiddenEdges$Strokes" "count" "I"] : List Cond), w ∈ wU
  exact List.forall_mem_cons.mpr ⟨List.mem_filter.mpr ⟨tb_1 _ (List.mem_of_getElem? (i := 226) rfl), rfl⟩, List.forall_mem_cons.mpr ⟨List.mem_filter.mpr ⟨tb_1 _ (List.mem_of_getElem? (i := 228) rfl), rfl⟩, List.forall_mem_cons.mpr ⟨List.mem_filter.mpr ⟨tb_1 _ (List.mem_of_getElem? (i := 230) rfl), rfl⟩, List.forall_mem_cons.mpr ⟨List.mem_filter.mpr ⟨tb_1 _ (List.mem_of_getElem? (i := 232) rfl), rfl⟩, List.forall_mem_cons.mpr ⟨List.mem_filter.mpr ⟨tb_1 _ (List.mem_of_getElem? (i := 234) rfl), rfl⟩, fun _ h => absurd h List.not_mem_nil⟩⟩⟩⟩⟩
theorem inlX8 : ∀ w ∈ wsX80, w ∈ wU := by
  show ∀ w ∈ ([Cond.laysFinal "HiddenEdges" "HiddenEdges" "mesh" "LHiddenEdges$Mesh;", Cond.laysFinal "HiddenEdges" "HiddenEdges" "sight" "LHiddenEdges$Sight;", Cond.laysFinal "HiddenEdges" "HiddenEdges" "edges" "LHiddenEdges$Edges;", Cond.laysFinal "HiddenEdges" "HiddenEdges" "cuts" "LHiddenEdges$Cuts;", Cond.laysFinal "HiddenEdges" "HiddenEdges" "pieces" "LHiddenEdges$Pieces;", Cond.laysFinal "HiddenEdges" "HiddenEdges" "strokes" "LHiddenEdges$Strokes;", Cond.laysFinal "HiddenEdges" "HiddenEdges" "meeting" "LHiddenEdges$Meeting;", Cond.laysFinal "HiddenEdges" "HiddenEdges" "corner" "[I", Cond.lays "HiddenEdges" "HiddenEdges" "settled" "I", Cond.lays "HiddenEdges" "HiddenEdges" "meetings" "I"] : List Cond), w ∈ wU
  exact List.forall_mem_cons.mpr ⟨List.mem_filter.mpr ⟨tb_2 _ (List.mem_of_getElem? (i := 30) rfl), rfl⟩, List.forall_mem_cons.mpr ⟨List.mem_filter.mpr ⟨tb_2 _ (List.mem_of_getElem? (i := 32) rfl), rfl⟩, List.forall_mem_cons.mpr ⟨List.mem_filter.mpr ⟨tb_2 _ (List.mem_of_getElem? (i := 34) rfl), rfl⟩, List.forall_mem_cons.mpr ⟨List.mem_filter.mpr ⟨tb_2 _ (List.mem_of_getElem? (i := 36) rfl), rfl⟩, List.forall_mem_cons.mpr ⟨List.mem_filter.mpr ⟨tb_2 _ (List.mem_of_getElem? (i := 38) rfl), rfl⟩, List.forall_mem_cons.mpr ⟨List.mem_filter.mpr ⟨tb_2 _ (List.mem_of_getElem? (i := 40) rfl), rfl⟩, List.forall_mem_cons.mpr ⟨List.mem_filter.mpr ⟨tb_2 _ (List.mem_of_getElem? (i := 42) rfl), rfl⟩, List.forall_mem_cons.mpr ⟨List.mem_filter.mpr ⟨tb_2 _ (List.mem_of_getElem? (i := 44) rfl), rfl⟩, List.forall_mem_cons.mpr ⟨List.mem_filter.mpr ⟨tb_2 _ (List.mem_of_getElem? (i := 46) rfl), rfl⟩, List.forall_mem_cons.mpr ⟨List.mem_filter.mpr ⟨tb_2 _ (List.mem_of_getElem? (i := 48) rfl), rfl⟩, fun _ h => absurd h List.not_mem_nil⟩⟩⟩⟩⟩⟩⟩⟩⟩⟩
theorem inlX9 : ∀ w ∈ wsX90, w ∈ wU := by
  show ∀ w ∈ ([Cond.lays "HiddenEdgesModel" "HiddenEdgesModel" "points" "I", Cond.laysFinal "HiddenEdgesModel" "HiddenEdgesModel" "xOf" "[I", Cond.laysFinal "HiddenEdgesModel" "HiddenEdgesModel" "yOf" "[I", Cond.laysFinal "HiddenEdgesModel" "HiddenEdgesModel" "zOf" "[I", Cond.lays "HiddenEdgesModel" "HiddenEdgesModel" "faces" "I", Cond.laysFinal "HiddenEdgesModel" "HiddenEdgesModel" "cornerOf" "[I", Cond.lays "HiddenEdgesModel" "HiddenEdgesModel" "wires" "I", Cond.laysFinal "HiddenEdgesModel" "HiddenEdgesModel" "wireOne" "[I", Cond.laysFinal "HiddenEdgesModel" "HiddenEdgesModel" "wireOther" "[I", Cond.lays "HiddenEdgesModel" "HiddenEdgesModel" "dx" "I", Cond.lays "HiddenEdgesModel" "HiddenEdgesModel" "dy" "I", Cond.lays "HiddenEdgesModel" "HiddenEdgesModel" "dz" "I", Cond.laysFinal "HiddenEdgesModel" "HiddenEdgesModel" "blockCorner" "[I", Cond.laysFinal "HiddenEdgesModel" "HiddenEdgesModel" "blockPoint" "[I", Cond.lays "HiddenEdgesModel" "HiddenEdgesModel" "isFound" "Z", Cond.lays "HiddenEdgesModel" "HiddenEdgesModel" "edges" "I", Cond.laysFinal "HiddenEdgesModel" "HiddenEdgesModel" "edgeOne" "[I", Cond.laysFinal "HiddenEdgesModel" "HiddenEdgesModel" "edgeOther" "[I", Cond.laysFinal "HiddenEdgesModel" "HiddenEdgesModel" "facesAt" "[I", Cond.laysFinal "HiddenEdgesModel" "HiddenEdgesModel" "sortOf" "[I", Cond.laysFinal "HiddenEdgesModel" "HiddenEdgesModel" "manyCuts" "[I", Cond.laysFinal "HiddenEdgesModel" "HiddenEdgesModel" "cutUp" "[J", Cond.laysFinal "HiddenEdgesModel" "HiddenEdgesModel" "cutDown" "[J", Cond.laysFinal "HiddenEdgesModel" "HiddenEdgesModel" "quantity" "[I", Cond.lays "HiddenEdgesModel" "HiddenEdgesModel" "beginUp" "J", Cond.lays "HiddenEdgesModel" "HiddenEdgesModel" "beginDown" "J", Cond.lays "HiddenEdgesModel" "HiddenEdgesModel" "endUp" "J", Cond.lays "HiddenEdgesModel" "HiddenEdgesModel" "endDown" "J", Cond.lays "HiddenEdgesModel" "HiddenEdgesModel" "crossT" "J", Cond.lays "HiddenEdgesModel" "HiddenEdgesModel" "crossS" "J", Cond.lays "HiddenEdgesModel" "HiddenEdgesModel" "crossDown" "J", Cond.lays "HiddenEdgesModel" "HiddenEdgesModel" "crossFar" "J", Cond.lays "HiddenEdgesModel" "HiddenEdgesModel" "strokes" "I", Cond.lays "HiddenEdgesModel" "HiddenEdgesModel" "laid" "I", Cond.laysFinal "HiddenEdgesModel" "HiddenEdgesModel" "strokeAt" "[I", Cond.laysFinal "HiddenEdgesModel" "HiddenEdgesModel" "laidEdge" "[I", Cond.laysFinal "HiddenEdgesModel" "HiddenEdgesModel" "laidPiece" "[I", Cond.laysFinal "HiddenEdgesModel" "HiddenEdgesModel" "laidOn" "[Z", Cond.laysFinal "HiddenEdgesModel" "HiddenEdgesModel" "isLaid" "[Z"] : List Cond), w ∈ wU
  exact List.forall_mem_cons.mpr ⟨List.mem_filter.mpr ⟨tb_4 _ (List.mem_of_getElem? (i := 19) rfl), rfl⟩, List.forall_mem_cons.mpr ⟨List.mem_filter.mpr ⟨tb_4 _ (List.mem_of_getElem? (i := 21) rfl), rfl⟩, List.forall_mem_cons.mpr ⟨List.mem_filter.mpr ⟨tb_4 _ (List.mem_of_getElem? (i := 23) rfl), rfl⟩, List.forall_mem_cons.mpr ⟨List.mem_filter.mpr ⟨tb_4 _ (List.mem_of_getElem? (i := 25) rfl), rfl⟩, List.forall_mem_cons.mpr ⟨List.mem_filter.mpr ⟨tb_4 _ (List.mem_of_getElem? (i := 27) rfl), rfl⟩, List.forall_mem_cons.mpr ⟨List.mem_filter.mpr ⟨tb_4 _ (List.mem_of_getElem? (i := 29) rfl), rfl⟩, List.forall_mem_cons.mpr ⟨List.mem_filter.mpr ⟨tb_4 _ (List.mem_of_getElem? (i := 31) rfl), rfl⟩, List.forall_mem_cons.mpr ⟨List.mem_filter.mpr ⟨tb_4 _ (List.mem_of_getElem? (i := 33) rfl), rfl⟩, List.forall_mem_cons.mpr ⟨List.mem_filter.mpr ⟨tb_4 _ (List.mem_of_getElem? (i := 35) rfl), rfl⟩, List.forall_mem_cons.mpr ⟨List.mem_filter.mpr ⟨tb_4 _ (List.mem_of_getElem? (i := 37) rfl), rfl⟩, List.forall_mem_cons.mpr ⟨List.mem_filter.mpr ⟨tb_4 _ (List.mem_of_getElem? (i := 39) rfl), rfl⟩, List.forall_mem_cons.mpr ⟨List.mem_filter.mpr ⟨tb_4 _ (List.mem_of_getElem? (i := 41) rfl), rfl⟩, List.forall_mem_cons.mpr ⟨List.mem_filter.mpr ⟨tb_4 _ (List.mem_of_getElem? (i := 43) rfl), rfl⟩, List.forall_mem_cons.mpr ⟨List.mem_filter.mpr ⟨tb_4 _ (List.mem_of_getElem? (i := 45) rfl), rfl⟩, List.forall_mem_cons.mpr ⟨List.mem_filter.mpr ⟨tb_4 _ (List.mem_of_getElem? (i := 47) rfl), rfl⟩, List.forall_mem_cons.mpr ⟨List.mem_filter.mpr ⟨tb_4 _ (List.mem_of_getElem? (i := 49) rfl), rfl⟩, List.forall_mem_cons.mpr ⟨List.mem_filter.mpr ⟨tb_4 _ (List.mem_of_getElem? (i := 51) rfl), rfl⟩, List.forall_mem_cons.mpr ⟨List.mem_filter.mpr ⟨tb_4 _ (List.mem_of_getElem? (i := 53) rfl), rfl⟩, List.forall_mem_cons.mpr ⟨List.mem_filter.mpr ⟨tb_4 _ (List.mem_of_getElem? (i := 55) rfl), rfl⟩, List.forall_mem_cons.mpr ⟨List.mem_filter.mpr ⟨tb_4 _ (List.mem_of_getElem? (i := 57) rfl), rfl⟩, List.forall_mem_cons.mpr ⟨List.mem_filter.mpr ⟨tb_4 _ (List.mem_of_getElem? (i := 59) rfl), rfl⟩, List.forall_mem_cons.mpr ⟨List.mem_filter.mpr ⟨tb_4 _ (List.mem_of_getElem? (i := 61) rfl), rfl⟩, List.forall_mem_cons.mpr ⟨List.mem_filter.mpr ⟨tb_4 _ (List.mem_of_getElem? (i := 63) rfl), rfl⟩, List.forall_mem_cons.mpr ⟨List.mem_filter.mpr ⟨tb_4 _ (List.mem_of_getElem? (i := 65) rfl), rfl⟩, List.forall_mem_cons.mpr ⟨List.mem_filter.mpr ⟨tb_4 _ (List.mem_of_getElem? (i := 67) rfl), rfl⟩, List.forall_mem_cons.mpr ⟨List.mem_filter.mpr ⟨tb_4 _ (List.mem_of_getElem? (i := 69) rfl), rfl⟩, List.forall_mem_cons.mpr ⟨List.mem_filter.mpr ⟨tb_4 _ (List.mem_of_getElem? (i := 71) rfl), rfl⟩, List.forall_mem_cons.mpr ⟨List.mem_filter.mpr ⟨tb_4 _ (List.mem_of_getElem? (i := 73) rfl), rfl⟩, List.forall_mem_cons.mpr ⟨List.mem_filter.mpr ⟨tb_4 _ (List.mem_of_getElem? (i := 75) rfl), rfl⟩, List.forall_mem_cons.mpr ⟨List.mem_filter.mpr ⟨tb_4 _ (List.mem_of_getElem? (i := 77) rfl), rfl⟩, List.forall_mem_cons.mpr ⟨List.mem_filter.mpr ⟨tb_4 _ (List.mem_of_getElem? (i := 79) rfl), rfl⟩, List.forall_mem_cons.mpr ⟨List.mem_filter.mpr ⟨tb_4 _ (List.mem_of_getElem? (i := 81) rfl), rfl⟩, List.forall_mem_cons.mpr ⟨List.mem_filter.mpr ⟨tb_4 _ (List.mem_of_getElem? (i := 83) rfl), rfl⟩, List.forall_mem_cons.mpr ⟨List.mem_filter.mpr ⟨tb_4 _ (List.mem_of_getElem? (i := 85) rfl), rfl⟩, List.forall_mem_cons.mpr ⟨List.mem_filter.mpr ⟨tb_4 _ (List.mem_of_getElem? (i := 87) rfl), rfl⟩, List.forall_mem_cons.mpr ⟨List.mem_filter.mpr ⟨tb_4 _ (List.mem_of_getElem? (i := 89) rfl), rfl⟩, List.forall_mem_cons.mpr ⟨List.mem_filter.mpr ⟨tb_4 _ (List.mem_of_getElem? (i := 91) rfl), rfl⟩, List.forall_mem_cons.mpr ⟨List.mem_filter.mpr ⟨tb_4 _ (List.mem_of_getElem? (i := 93) rfl), rfl⟩, List.forall_mem_cons.mpr ⟨List.mem_filter.mpr ⟨tb_4 _ (List.mem_of_getElem? (i := 95) rfl), rfl⟩, fun _ h => absurd h List.not_mem_nil⟩⟩⟩⟩⟩⟩⟩⟩⟩⟩⟩⟩⟩⟩⟩⟩⟩⟩⟩⟩⟩⟩⟩⟩⟩⟩⟩⟩⟩⟩⟩⟩⟩⟩⟩⟩⟩⟩⟩
