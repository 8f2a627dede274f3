/-! by program: the constructors' names, words and decode rows -/
theorem wd_95 : (Cond.classLink "NoneMayLeaveLaw" 7 "NoneMayLeave") ∈ nm_WS := nm_ws_of (i := 95) (by decide +kernel) (by decide +kernel)
theorem wd_96 : (Cond.instantiable "NoneMayLeave" 11) ∈ nm_WS := nm_ws_of (i := 96) (by decide +kernel) (by decide +kernel)
theorem wd_97 : (Cond.methodLink "NoneMayLeaveLaw" 9 ({ cls := "NoneMayLeave", name := "<init>", desc := "()V" } : MethodName)) ∈ nm_WS := nm_ws_of (i := 97) (by decide +kernel) (by decide +kernel)
theorem wd_98 : (Cond.instanceMethod ({ cls := "NoneMayLeave", name := "<init>", desc := "()V" } : MethodName)) ∈ nm_WS := nm_ws_of (i := 98) (by decide +kernel) (by decide +kernel)
theorem wd_99 : (Cond.code ({ cls := "NoneMayLeave", name := "<init>", desc := "()V" } : MethodName) prog_1_method_1_code 2 (Option.none : Option ClassFile.FieldType)) ∈ nm_WS := nm_ws_of (i := 99) (by decide +kernel) (by decide +kernel)
theorem wd_100 : (Cond.methodLink "NoneMayLeave" 1 Lib.objectInit) ∈ nm_WS := nm_ws_of (i := 100) (by decide +kernel) (by decide +kernel)
theorem wd_103 : (Cond.classLink "NoneMayLeave" 9 "NoneMayLeave$Shelf") ∈ nm_WS := nm_ws_of (i := 103) (by decide +kernel) (by decide +kernel)
theorem wd_105 : (Cond.classLink "NoneMayLeave" 15 "NoneMayLeave$Island") ∈ nm_WS := nm_ws_of (i := 105) (by decide +kernel) (by decide +kernel)
theorem wd_106 : (Cond.instantiable "NoneMayLeave$Island" 12) ∈ nm_WS := nm_ws_of (i := 106) (by decide +kernel) (by decide +kernel)
theorem wd_107 : (Cond.methodLinkNest "NoneMayLeave" 17 ({ cls := "NoneMayLeave$Island", name := "<init>", desc := "()V" } : MethodName) "NoneMayLeave") ∈ nm_NW := nm_nw_of (i := 107) (by decide +kernel) (by decide +kernel)
theorem wd_108 : (Cond.instanceMethod ({ cls := "NoneMayLeave$Island", name := "<init>", desc := "()V" } : MethodName)) ∈ nm_WS := nm_ws_of (i := 108) (by decide +kernel) (by decide +kernel)
theorem wd_109 : (Cond.code ({ cls := "NoneMayLeave$Island", name := "<init>", desc := "()V" } : MethodName) prog_3_method_1_code 1 (Option.none : Option ClassFile.FieldType)) ∈ nm_WS := nm_ws_of (i := 109) (by decide +kernel) (by decide +kernel)
theorem wd_110 : (Cond.methodLink "NoneMayLeave$Island" 3 Lib.objectInit) ∈ nm_WS := nm_ws_of (i := 110) (by decide +kernel) (by decide +kernel)
theorem wd_160 : (Cond.arrayClass ClassFile.FieldType.int) ∈ nm_WS := nm_ws_of (i := 160) (by decide +kernel) (by decide +kernel)
theorem wd_161 : (Cond.classLink "NoneMayLeave" 28 "NoneMayLeave$Sets") ∈ nm_WS := nm_ws_of (i := 161) (by decide +kernel) (by decide +kernel)
theorem wd_162 : (Cond.instantiable "NoneMayLeave$Sets" 4) ∈ nm_WS := nm_ws_of (i := 162) (by decide +kernel) (by decide +kernel)
theorem wd_163 : (Cond.methodLinkNest "NoneMayLeave" 30 ({ cls := "NoneMayLeave$Sets", name := "<init>", desc := "()V" } : MethodName) "NoneMayLeave") ∈ nm_NW := nm_nw_of (i := 163) (by decide +kernel) (by decide +kernel)
theorem wd_164 : (Cond.instanceMethod ({ cls := "NoneMayLeave$Sets", name := "<init>", desc := "()V" } : MethodName)) ∈ nm_WS := nm_ws_of (i := 164) (by decide +kernel) (by decide +kernel)
theorem wd_165 : (Cond.code ({ cls := "NoneMayLeave$Sets", name := "<init>", desc := "()V" } : MethodName) prog_5_method_1_code 1 (Option.none : Option ClassFile.FieldType)) ∈ nm_WS := nm_ws_of (i := 165) (by decide +kernel) (by decide +kernel)
theorem wd_166 : (Cond.methodLink "NoneMayLeave$Sets" 3 Lib.objectInit) ∈ nm_WS := nm_ws_of (i := 166) (by decide +kernel) (by decide +kernel)
theorem wd_180 : (Cond.classLink "NoneMayLeave" 35 "NoneMayLeave$Council") ∈ nm_WS := nm_ws_of (i := 180) (by decide +kernel) (by decide +kernel)
theorem wd_181 : (Cond.instantiable "NoneMayLeave$Council" 5) ∈ nm_WS := nm_ws_of (i := 181) (by decide +kernel) (by decide +kernel)
theorem wd_182 : (Cond.methodLinkNest "NoneMayLeave" 37 ({ cls := "NoneMayLeave$Council", name := "<init>", desc := "()V" } : MethodName) "NoneMayLeave") ∈ nm_NW := nm_nw_of (i := 182) (by decide +kernel) (by decide +kernel)
theorem wd_183 : (Cond.instanceMethod ({ cls := "NoneMayLeave$Council", name := "<init>", desc := "()V" } : MethodName)) ∈ nm_WS := nm_ws_of (i := 183) (by decide +kernel) (by decide +kernel)
theorem wd_184 : (Cond.code ({ cls := "NoneMayLeave$Council", name := "<init>", desc := "()V" } : MethodName) prog_2_method_1_code 1 (Option.none : Option ClassFile.FieldType)) ∈ nm_WS := nm_ws_of (i := 184) (by decide +kernel) (by decide +kernel)
theorem wd_185 : (Cond.methodLink "NoneMayLeave$Council" 3 Lib.objectInit) ∈ nm_WS := nm_ws_of (i := 185) (by decide +kernel) (by decide +kernel)
theorem wd_186 : (Cond.classLink "NoneMayLeave$Council" 9 "NoneMayLeave$Island") ∈ nm_WS := nm_ws_of (i := 186) (by decide +kernel) (by decide +kernel)
theorem wd_187 : (Cond.methodLinkNest "NoneMayLeave$Council" 11 ({ cls := "NoneMayLeave$Island", name := "<init>", desc := "()V" } : MethodName) "NoneMayLeave") ∈ nm_NW := nm_nw_of (i := 187) (by decide +kernel) (by decide +kernel)
theorem wd_207 : (Cond.classLink "NoneMayLeave" 42 "NoneMayLeave$TextReader") ∈ nm_WS := nm_ws_of (i := 207) (by decide +kernel) (by decide +kernel)
theorem wd_208 : (Cond.instantiable "NoneMayLeave$TextReader" 7) ∈ nm_WS := nm_ws_of (i := 208) (by decide +kernel) (by decide +kernel)
theorem wd_209 : (Cond.methodLinkNest "NoneMayLeave" 44 ({ cls := "NoneMayLeave$TextReader", name := "<init>", desc := "()V" } : MethodName) "NoneMayLeave") ∈ nm_NW := nm_nw_of (i := 209) (by decide +kernel) (by decide +kernel)
theorem wd_210 : (Cond.instanceMethod ({ cls := "NoneMayLeave$TextReader", name := "<init>", desc := "()V" } : MethodName)) ∈ nm_WS := nm_ws_of (i := 210) (by decide +kernel) (by decide +kernel)
theorem wd_211 : (Cond.code ({ cls := "NoneMayLeave$TextReader", name := "<init>", desc := "()V" } : MethodName) prog_7_method_1_code 1 (Option.none : Option ClassFile.FieldType)) ∈ nm_WS := nm_ws_of (i := 211) (by decide +kernel) (by decide +kernel)
theorem wd_212 : (Cond.methodLink "NoneMayLeave$TextReader" 3 Lib.objectInit) ∈ nm_WS := nm_ws_of (i := 212) (by decide +kernel) (by decide +kernel)
theorem wd_213 : (Cond.classLink "NoneMayLeave$TextReader" 9 "NoneMayLeave$Island") ∈ nm_WS := nm_ws_of (i := 213) (by decide +kernel) (by decide +kernel)
theorem wd_214 : (Cond.methodLinkNest "NoneMayLeave$TextReader" 11 ({ cls := "NoneMayLeave$Island", name := "<init>", desc := "()V" } : MethodName) "NoneMayLeave") ∈ nm_NW := nm_nw_of (i := 214) (by decide +kernel) (by decide +kernel)
theorem wd_239 : (Cond.classLink "NoneMayLeave" 49 "NoneMayLeave$Mover") ∈ nm_WS := nm_ws_of (i := 239) (by decide +kernel) (by decide +kernel)
theorem wd_240 : (Cond.instantiable "NoneMayLeave$Mover" 5) ∈ nm_WS := nm_ws_of (i := 240) (by decide +kernel) (by decide +kernel)
theorem wd_241 : (Cond.methodLinkNest "NoneMayLeave" 51 ({ cls := "NoneMayLeave$Mover", name := "<init>", desc := "()V" } : MethodName) "NoneMayLeave") ∈ nm_NW := nm_nw_of (i := 241) (by decide +kernel) (by decide +kernel)
theorem wd_242 : (Cond.instanceMethod ({ cls := "NoneMayLeave$Mover", name := "<init>", desc := "()V" } : MethodName)) ∈ nm_WS := nm_ws_of (i := 242) (by decide +kernel) (by decide +kernel)
theorem wd_243 : (Cond.code ({ cls := "NoneMayLeave$Mover", name := "<init>", desc := "()V" } : MethodName) prog_4_method_1_code 1 (Option.none : Option ClassFile.FieldType)) ∈ nm_WS := nm_ws_of (i := 243) (by decide +kernel) (by decide +kernel)
theorem wd_244 : (Cond.methodLink "NoneMayLeave$Mover" 3 Lib.objectInit) ∈ nm_WS := nm_ws_of (i := 244) (by decide +kernel) (by decide +kernel)
theorem wd_262 : (Cond.instantiable "NoneMayLeave$Shelf" 5) ∈ nm_WS := nm_ws_of (i := 262) (by decide +kernel) (by decide +kernel)
theorem wd_263 : (Cond.methodLinkNest "NoneMayLeave" 68 ({ cls := "NoneMayLeave$Shelf", name := "<init>", desc := "()V" } : MethodName) "NoneMayLeave") ∈ nm_NW := nm_nw_of (i := 263) (by decide +kernel) (by decide +kernel)
theorem wd_264 : (Cond.instanceMethod ({ cls := "NoneMayLeave$Shelf", name := "<init>", desc := "()V" } : MethodName)) ∈ nm_WS := nm_ws_of (i := 264) (by decide +kernel) (by decide +kernel)
theorem wd_265 : (Cond.code ({ cls := "NoneMayLeave$Shelf", name := "<init>", desc := "()V" } : MethodName) prog_6_method_1_code 1 (Option.none : Option ClassFile.FieldType)) ∈ nm_WS := nm_ws_of (i := 265) (by decide +kernel) (by decide +kernel)
theorem wd_266 : (Cond.methodLink "NoneMayLeave$Shelf" 3 Lib.objectInit) ∈ nm_WS := nm_ws_of (i := 266) (by decide +kernel) (by decide +kernel)
theorem wd_286 : (Cond.arrayClass ClassFile.FieldType.long) ∈ nm_WS := nm_ws_of (i := 286) (by decide +kernel) (by decide +kernel)
theorem wd_1051 : (Cond.classLink "NoneMayLeaveLaw" 10 "NoneMayLeaveModel") ∈ nm_WS := nm_ws_of (i := 1051) (by decide +kernel) (by decide +kernel)
theorem wd_1052 : (Cond.instantiable "NoneMayLeaveModel" 37) ∈ nm_WS := nm_ws_of (i := 1052) (by decide +kernel) (by decide +kernel)
theorem wd_1053 : (Cond.methodLink "NoneMayLeaveLaw" 12 ({ cls := "NoneMayLeaveModel", name := "<init>", desc := "()V" } : MethodName)) ∈ nm_WS := nm_ws_of (i := 1053) (by decide +kernel) (by decide +kernel)
theorem wd_1054 : (Cond.instanceMethod ({ cls := "NoneMayLeaveModel", name := "<init>", desc := "()V" } : MethodName)) ∈ nm_WS := nm_ws_of (i := 1054) (by decide +kernel) (by decide +kernel)
theorem wd_1055 : (Cond.code ({ cls := "NoneMayLeaveModel", name := "<init>", desc := "()V" } : MethodName) prog_9_method_1_code 1 (Option.none : Option ClassFile.FieldType)) ∈ nm_WS := nm_ws_of (i := 1055) (by decide +kernel) (by decide +kernel)
theorem wd_1056 : (Cond.methodLink "NoneMayLeaveModel" 1 Lib.objectInit) ∈ nm_WS := nm_ws_of (i := 1056) (by decide +kernel) (by decide +kernel)
theorem cn_b_101 : (Int8.ofInt (101)).toInt32 = (101 : Int32) := by decide +kernel
theorem cn_b_102 : (Int8.ofInt (102)).toInt32 = (102 : Int32) := by decide +kernel
theorem cn_b_103 : (Int8.ofInt (103)).toInt32 = (103 : Int32) := by decide +kernel
theorem cn_b_105 : (Int8.ofInt (105)).toInt32 = (105 : Int32) := by decide +kernel
theorem cn_b_107 : (Int8.ofInt (107)).toInt32 = (107 : Int32) := by decide +kernel
theorem cn_b_109 : (Int8.ofInt (109)).toInt32 = (109 : Int32) := by decide +kernel
theorem cn_b_110 : (Int8.ofInt (110)).toInt32 = (110 : Int32) := by decide +kernel
theorem cn_b_111 : (Int8.ofInt (111)).toInt32 = (111 : Int32) := by decide +kernel
theorem cn_b_112 : (Int8.ofInt (112)).toInt32 = (112 : Int32) := by decide +kernel
theorem cn_b_114 : (Int8.ofInt (114)).toInt32 = (114 : Int32) := by decide +kernel
theorem cn_b_115 : (Int8.ofInt (115)).toInt32 = (115 : Int32) := by decide +kernel
theorem cn_b_116 : (Int8.ofInt (116)).toInt32 = (116 : Int32) := by decide +kernel
theorem cn_b_117 : (Int8.ofInt (117)).toInt32 = (117 : Int32) := by decide +kernel
theorem cn_b_119 : (Int8.ofInt (119)).toInt32 = (119 : Int32) := by decide +kernel
theorem cn_b_13 : (Int8.ofInt (13)).toInt32 = (13 : Int32) := by decide +kernel
theorem cn_b_14 : (Int8.ofInt (14)).toInt32 = (14 : Int32) := by decide +kernel
theorem cn_b_15 : (Int8.ofInt (15)).toInt32 = (15 : Int32) := by decide +kernel
theorem cn_b_18 : (Int8.ofInt (18)).toInt32 = (18 : Int32) := by decide +kernel
theorem cn_b_19 : (Int8.ofInt (19)).toInt32 = (19 : Int32) := by decide +kernel
theorem cn_b_21 : (Int8.ofInt (21)).toInt32 = (21 : Int32) := by decide +kernel
theorem cn_b_22 : (Int8.ofInt (22)).toInt32 = (22 : Int32) := by decide +kernel
theorem cn_b_23 : (Int8.ofInt (23)).toInt32 = (23 : Int32) := by decide +kernel
theorem cn_b_24 : (Int8.ofInt (24)).toInt32 = (24 : Int32) := by decide +kernel
theorem cn_b_25 : (Int8.ofInt (25)).toInt32 = (25 : Int32) := by decide +kernel
theorem cn_b_26 : (Int8.ofInt (26)).toInt32 = (26 : Int32) := by decide +kernel
theorem cn_b_27 : (Int8.ofInt (27)).toInt32 = (27 : Int32) := by decide +kernel
theorem cn_b_28 : (Int8.ofInt (28)).toInt32 = (28 : Int32) := by decide +kernel
theorem cn_b_29 : (Int8.ofInt (29)).toInt32 = (29 : Int32) := by decide +kernel
theorem cn_b_31 : (Int8.ofInt (31)).toInt32 = (31 : Int32) := by decide +kernel
theorem cn_b_33 : (Int8.ofInt (33)).toInt32 = (33 : Int32) := by decide +kernel
theorem cn_b_34 : (Int8.ofInt (34)).toInt32 = (34 : Int32) := by decide +kernel
theorem cn_b_35 : (Int8.ofInt (35)).toInt32 = (35 : Int32) := by decide +kernel
theorem cn_b_36 : (Int8.ofInt (36)).toInt32 = (36 : Int32) := by decide +kernel
theorem cn_b_37 : (Int8.ofInt (37)).toInt32 = (37 : Int32) := by decide +kernel
theorem cn_b_38 : (Int8.ofInt (38)).toInt32 = (38 : Int32) := by decide +kernel
theorem cn_b_39 : (Int8.ofInt (39)).toInt32 = (39 : Int32) := by decide +kernel
theorem cn_b_41 : (Int8.ofInt (41)).toInt32 = (41 : Int32) := by decide +kernel
theorem cn_b_42 : (Int8.ofInt (42)).toInt32 = (42 : Int32) := by decide +kernel
theorem cn_b_43 : (Int8.ofInt (43)).toInt32 = (43 : Int32) := by decide +kernel
theorem cn_b_44 : (Int8.ofInt (44)).toInt32 = (44 : Int32) := by decide +kernel
theorem cn_b_45 : (Int8.ofInt (45)).toInt32 = (45 : Int32) := by decide +kernel
theorem cn_b_46 : (Int8.ofInt (46)).toInt32 = (46 : Int32) := by decide +kernel
theorem cn_b_47 : (Int8.ofInt (47)).toInt32 = (47 : Int32) := by decide +kernel
theorem cn_b_49 : (Int8.ofInt (49)).toInt32 = (49 : Int32) := by decide +kernel
theorem cn_b_97 : (Int8.ofInt (97)).toInt32 = (97 : Int32) := by decide +kernel
theorem cn_s_1280 : (Int16.ofInt (1280)).toInt32 = (1280 : Int32) := by decide +kernel
abbrev mi_Is_init : nm_M := (⟨"NoneMayLeave$Island", "<init>", "()V"⟩, prog_3_method_1_code, 1, none)
theorem dk_Is_init_0 : decode mi_Is_init.2.1 0 = .ok (.aload_n 0, 1) := by decide +kernel
theorem dk_Is_init_1 : decode mi_Is_init.2.1 1 = .ok (.invokespecial 3, 3) := by decide +kernel
theorem dk_Is_init_4 : decode mi_Is_init.2.1 4 = .ok (.aload_n 0, 1) := by decide +kernel
theorem dk_Is_init_5 : decode mi_Is_init.2.1 5 = .ok (.bipush 8, 2) := by decide +kernel
theorem dk_Is_init_7 : decode mi_Is_init.2.1 7 = .ok (.newarray .int, 2) := by decide +kernel
theorem dk_Is_init_9 : decode mi_Is_init.2.1 9 = .ok (.putfield 9, 3) := by decide +kernel
theorem dk_Is_init_12 : decode mi_Is_init.2.1 12 = .ok (.aload_n 0, 1) := by decide +kernel
theorem dk_Is_init_13 : decode mi_Is_init.2.1 13 = .ok (.bipush 8, 2) := by decide +kernel
theorem dk_Is_init_15 : decode mi_Is_init.2.1 15 = .ok (.newarray .int, 2) := by decide +kernel
theorem dk_Is_init_17 : decode mi_Is_init.2.1 17 = .ok (.putfield 15, 3) := by decide +kernel
theorem dk_Is_init_20 : decode mi_Is_init.2.1 20 = .ok (.aload_n 0, 1) := by decide +kernel
theorem dk_Is_init_21 : decode mi_Is_init.2.1 21 = .ok (.bipush 8, 2) := by decide +kernel
theorem dk_Is_init_23 : decode mi_Is_init.2.1 23 = .ok (.newarray .int, 2) := by decide +kernel
theorem dk_Is_init_25 : decode mi_Is_init.2.1 25 = .ok (.putfield 18, 3) := by decide +kernel
theorem dk_Is_init_28 : decode mi_Is_init.2.1 28 = .ok (.aload_n 0, 1) := by decide +kernel
theorem dk_Is_init_29 : decode mi_Is_init.2.1 29 = .ok (.bipush 8, 2) := by decide +kernel
theorem dk_Is_init_31 : decode mi_Is_init.2.1 31 = .ok (.newarray .int, 2) := by decide +kernel
theorem dk_Is_init_33 : decode mi_Is_init.2.1 33 = .ok (.putfield 21, 3) := by decide +kernel
theorem dk_Is_init_36 : decode mi_Is_init.2.1 36 = .ok (.aload_n 0, 1) := by decide +kernel
theorem dk_Is_init_37 : decode mi_Is_init.2.1 37 = .ok (.bipush 8, 2) := by decide +kernel
theorem dk_Is_init_39 : decode mi_Is_init.2.1 39 = .ok (.newarray .int, 2) := by decide +kernel
theorem dk_Is_init_41 : decode mi_Is_init.2.1 41 = .ok (.putfield 24, 3) := by decide +kernel
theorem dk_Is_init_44 : decode mi_Is_init.2.1 44 = .ok (.aload_n 0, 1) := by decide +kernel
theorem dk_Is_init_45 : decode mi_Is_init.2.1 45 = .ok (.bipush 8, 2) := by decide +kernel
theorem dk_Is_init_47 : decode mi_Is_init.2.1 47 = .ok (.newarray .int, 2) := by decide +kernel
theorem dk_Is_init_49 : decode mi_Is_init.2.1 49 = .ok (.putfield 27, 3) := by decide +kernel
theorem dk_Is_init_52 : decode mi_Is_init.2.1 52 = .ok (.aload_n 0, 1) := by decide +kernel
theorem dk_Is_init_53 : decode mi_Is_init.2.1 53 = .ok (.iconst 0, 1) := by decide +kernel
theorem dk_Is_init_54 : decode mi_Is_init.2.1 54 = .ok (.putfield 30, 3) := by decide +kernel
theorem dk_Is_init_57 : decode mi_Is_init.2.1 57 = .ok (.aload_n 0, 1) := by decide +kernel
theorem dk_Is_init_58 : decode mi_Is_init.2.1 58 = .ok (.iconst 4, 1) := by decide +kernel
theorem dk_Is_init_59 : decode mi_Is_init.2.1 59 = .ok (.putfield 34, 3) := by decide +kernel
theorem dk_Is_init_62 : decode mi_Is_init.2.1 62 = .ok (.aload_n 0, 1) := by decide +kernel
theorem dk_Is_init_63 : decode mi_Is_init.2.1 63 = .ok (.iconst 0, 1) := by decide +kernel
theorem dk_Is_init_64 : decode mi_Is_init.2.1 64 = .ok (.putfield 37, 3) := by decide +kernel
theorem dk_Is_init_67 : decode mi_Is_init.2.1 67 = .ok (.aload_n 0, 1) := by decide +kernel
theorem dk_Is_init_68 : decode mi_Is_init.2.1 68 = .ok (.bipush 100, 2) := by decide +kernel
theorem dk_Is_init_70 : decode mi_Is_init.2.1 70 = .ok (.putfield 40, 3) := by decide +kernel
theorem dk_Is_init_73 : decode mi_Is_init.2.1 73 = .ok (.aload_n 0, 1) := by decide +kernel
theorem dk_Is_init_74 : decode mi_Is_init.2.1 74 = .ok (.iconst 0, 1) := by decide +kernel
theorem dk_Is_init_75 : decode mi_Is_init.2.1 75 = .ok (.putfield 43, 3) := by decide +kernel
theorem dk_Is_init_78 : decode mi_Is_init.2.1 78 = .ok (.aload_n 0, 1) := by decide +kernel
theorem dk_Is_init_79 : decode mi_Is_init.2.1 79 = .ok (.iconst 1, 1) := by decide +kernel
theorem dk_Is_init_80 : decode mi_Is_init.2.1 80 = .ok (.putfield 46, 3) := by decide +kernel
theorem dk_Is_init_83 : decode mi_Is_init.2.1 83 = .ok (.return_, 1) := by decide +kernel
theorem kw_Is_init : nm_CW mi_Is_init 0 := ⟨wd_109, ⟨by decide +kernel, by decide +kernel, by decide +kernel⟩, wd_81, rfl⟩
abbrev mi_Sh_init : nm_M := (⟨"NoneMayLeave$Shelf", "<init>", "()V"⟩, prog_6_method_1_code, 1, none)
theorem dk_Sh_init_0 : decode mi_Sh_init.2.1 0 = .ok (.aload_n 0, 1) := by decide +kernel
theorem dk_Sh_init_1 : decode mi_Sh_init.2.1 1 = .ok (.invokespecial 3, 3) := by decide +kernel
theorem dk_Sh_init_4 : decode mi_Sh_init.2.1 4 = .ok (.aload_n 0, 1) := by decide +kernel
theorem dk_Sh_init_5 : decode mi_Sh_init.2.1 5 = .ok (.sipush 160, 3) := by decide +kernel
theorem dk_Sh_init_8 : decode mi_Sh_init.2.1 8 = .ok (.newarray .long, 2) := by decide +kernel
theorem dk_Sh_init_10 : decode mi_Sh_init.2.1 10 = .ok (.putfield 9, 3) := by decide +kernel
theorem dk_Sh_init_13 : decode mi_Sh_init.2.1 13 = .ok (.aload_n 0, 1) := by decide +kernel
theorem dk_Sh_init_14 : decode mi_Sh_init.2.1 14 = .ok (.iconst 0, 1) := by decide +kernel
theorem dk_Sh_init_15 : decode mi_Sh_init.2.1 15 = .ok (.putfield 15, 3) := by decide +kernel
theorem dk_Sh_init_18 : decode mi_Sh_init.2.1 18 = .ok (.aload_n 0, 1) := by decide +kernel
theorem dk_Sh_init_19 : decode mi_Sh_init.2.1 19 = .ok (.iconst 0, 1) := by decide +kernel
theorem dk_Sh_init_20 : decode mi_Sh_init.2.1 20 = .ok (.putfield 19, 3) := by decide +kernel
theorem dk_Sh_init_23 : decode mi_Sh_init.2.1 23 = .ok (.aload_n 0, 1) := by decide +kernel
theorem dk_Sh_init_24 : decode mi_Sh_init.2.1 24 = .ok (.iconst 0, 1) := by decide +kernel
theorem dk_Sh_init_25 : decode mi_Sh_init.2.1 25 = .ok (.putfield 22, 3) := by decide +kernel
theorem dk_Sh_init_28 : decode mi_Sh_init.2.1 28 = .ok (.aload_n 0, 1) := by decide +kernel
theorem dk_Sh_init_29 : decode mi_Sh_init.2.1 29 = .ok (.iconst (-1), 1) := by decide +kernel
theorem dk_Sh_init_30 : decode mi_Sh_init.2.1 30 = .ok (.putfield 25, 3) := by decide +kernel
theorem dk_Sh_init_33 : decode mi_Sh_init.2.1 33 = .ok (.return_, 1) := by decide +kernel
theorem kw_Sh_init : nm_CW mi_Sh_init 0 := ⟨wd_265, ⟨by decide +kernel, by decide +kernel, by decide +kernel⟩, wd_86, rfl⟩
abbrev mi_Se_init : nm_M := (⟨"NoneMayLeave$Sets", "<init>", "()V"⟩, prog_5_method_1_code, 1, none)
theorem dk_Se_init_0 : decode mi_Se_init.2.1 0 = .ok (.aload_n 0, 1) := by decide +kernel
theorem dk_Se_init_1 : decode mi_Se_init.2.1 1 = .ok (.invokespecial 3, 3) := by decide +kernel
theorem dk_Se_init_4 : decode mi_Se_init.2.1 4 = .ok (.aload_n 0, 1) := by decide +kernel
theorem dk_Se_init_5 : decode mi_Se_init.2.1 5 = .ok (.sipush 256, 3) := by decide +kernel
theorem dk_Se_init_8 : decode mi_Se_init.2.1 8 = .ok (.newarray .int, 2) := by decide +kernel
theorem dk_Se_init_10 : decode mi_Se_init.2.1 10 = .ok (.putfield 11, 3) := by decide +kernel
theorem dk_Se_init_13 : decode mi_Se_init.2.1 13 = .ok (.aload_n 0, 1) := by decide +kernel
theorem dk_Se_init_14 : decode mi_Se_init.2.1 14 = .ok (.sipush 256, 3) := by decide +kernel
theorem dk_Se_init_17 : decode mi_Se_init.2.1 17 = .ok (.newarray .int, 2) := by decide +kernel
theorem dk_Se_init_19 : decode mi_Se_init.2.1 19 = .ok (.putfield 15, 3) := by decide +kernel
theorem dk_Se_init_22 : decode mi_Se_init.2.1 22 = .ok (.aload_n 0, 1) := by decide +kernel
theorem dk_Se_init_23 : decode mi_Se_init.2.1 23 = .ok (.sipush 256, 3) := by decide +kernel
theorem dk_Se_init_26 : decode mi_Se_init.2.1 26 = .ok (.newarray .int, 2) := by decide +kernel
theorem dk_Se_init_28 : decode mi_Se_init.2.1 28 = .ok (.putfield 18, 3) := by decide +kernel
theorem dk_Se_init_31 : decode mi_Se_init.2.1 31 = .ok (.aload_n 0, 1) := by decide +kernel
theorem dk_Se_init_32 : decode mi_Se_init.2.1 32 = .ok (.iconst 1, 1) := by decide +kernel
theorem dk_Se_init_33 : decode mi_Se_init.2.1 33 = .ok (.putfield 21, 3) := by decide +kernel
theorem dk_Se_init_36 : decode mi_Se_init.2.1 36 = .ok (.return_, 1) := by decide +kernel
theorem kw_Se_init : nm_CW mi_Se_init 0 := ⟨wd_165, ⟨by decide +kernel, by decide +kernel, by decide +kernel⟩, wd_82, rfl⟩
abbrev mi_Mo_init : nm_M := (⟨"NoneMayLeave$Mover", "<init>", "()V"⟩, prog_4_method_1_code, 1, none)
theorem dk_Mo_init_0 : decode mi_Mo_init.2.1 0 = .ok (.aload_n 0, 1) := by decide +kernel
theorem dk_Mo_init_1 : decode mi_Mo_init.2.1 1 = .ok (.invokespecial 3, 3) := by decide +kernel
theorem dk_Mo_init_4 : decode mi_Mo_init.2.1 4 = .ok (.aload_n 0, 1) := by decide +kernel
theorem dk_Mo_init_5 : decode mi_Mo_init.2.1 5 = .ok (.bipush 20, 2) := by decide +kernel
theorem dk_Mo_init_7 : decode mi_Mo_init.2.1 7 = .ok (.newarray .int, 2) := by decide +kernel
theorem dk_Mo_init_9 : decode mi_Mo_init.2.1 9 = .ok (.putfield 11, 3) := by decide +kernel
theorem dk_Mo_init_12 : decode mi_Mo_init.2.1 12 = .ok (.aload_n 0, 1) := by decide +kernel
theorem dk_Mo_init_13 : decode mi_Mo_init.2.1 13 = .ok (.iconst 0, 1) := by decide +kernel
theorem dk_Mo_init_14 : decode mi_Mo_init.2.1 14 = .ok (.putfield 15, 3) := by decide +kernel
theorem dk_Mo_init_17 : decode mi_Mo_init.2.1 17 = .ok (.aload_n 0, 1) := by decide +kernel
theorem dk_Mo_init_18 : decode mi_Mo_init.2.1 18 = .ok (.iconst 0, 1) := by decide +kernel
theorem dk_Mo_init_19 : decode mi_Mo_init.2.1 19 = .ok (.putfield 19, 3) := by decide +kernel
theorem dk_Mo_init_22 : decode mi_Mo_init.2.1 22 = .ok (.aload_n 0, 1) := by decide +kernel
theorem dk_Mo_init_23 : decode mi_Mo_init.2.1 23 = .ok (.iconst 0, 1) := by decide +kernel
theorem dk_Mo_init_24 : decode mi_Mo_init.2.1 24 = .ok (.putfield 22, 3) := by decide +kernel
theorem dk_Mo_init_27 : decode mi_Mo_init.2.1 27 = .ok (.aload_n 0, 1) := by decide +kernel
theorem dk_Mo_init_28 : decode mi_Mo_init.2.1 28 = .ok (.iconst 0, 1) := by decide +kernel
theorem dk_Mo_init_29 : decode mi_Mo_init.2.1 29 = .ok (.putfield 25, 3) := by decide +kernel
theorem dk_Mo_init_32 : decode mi_Mo_init.2.1 32 = .ok (.return_, 1) := by decide +kernel
theorem kw_Mo_init : nm_CW mi_Mo_init 0 := ⟨wd_243, ⟨by decide +kernel, by decide +kernel, by decide +kernel⟩, wd_85, rfl⟩
abbrev mi_Co_init : nm_M := (⟨"NoneMayLeave$Council", "<init>", "()V"⟩, prog_2_method_1_code, 1, none)
theorem dk_Co_init_0 : decode mi_Co_init.2.1 0 = .ok (.aload_n 0, 1) := by decide +kernel
theorem dk_Co_init_1 : decode mi_Co_init.2.1 1 = .ok (.invokespecial 3, 3) := by decide +kernel
theorem dk_Co_init_4 : decode mi_Co_init.2.1 4 = .ok (.aload_n 0, 1) := by decide +kernel
theorem dk_Co_init_5 : decode mi_Co_init.2.1 5 = .ok (.new 9, 3) := by decide +kernel
theorem dk_Co_init_8 : decode mi_Co_init.2.1 8 = .ok (.dup, 1) := by decide +kernel
theorem dk_Co_init_9 : decode mi_Co_init.2.1 9 = .ok (.invokespecial 11, 3) := by decide +kernel
theorem dk_Co_init_12 : decode mi_Co_init.2.1 12 = .ok (.putfield 12, 3) := by decide +kernel
theorem dk_Co_init_15 : decode mi_Co_init.2.1 15 = .ok (.aload_n 0, 1) := by decide +kernel
theorem dk_Co_init_16 : decode mi_Co_init.2.1 16 = .ok (.new 9, 3) := by decide +kernel
theorem dk_Co_init_19 : decode mi_Co_init.2.1 19 = .ok (.dup, 1) := by decide +kernel
theorem dk_Co_init_20 : decode mi_Co_init.2.1 20 = .ok (.invokespecial 11, 3) := by decide +kernel
theorem dk_Co_init_23 : decode mi_Co_init.2.1 23 = .ok (.putfield 18, 3) := by decide +kernel
theorem dk_Co_init_26 : decode mi_Co_init.2.1 26 = .ok (.aload_n 0, 1) := by decide +kernel
theorem dk_Co_init_27 : decode mi_Co_init.2.1 27 = .ok (.iconst 0, 1) := by decide +kernel
theorem dk_Co_init_28 : decode mi_Co_init.2.1 28 = .ok (.putfield 21, 3) := by decide +kernel
theorem dk_Co_init_31 : decode mi_Co_init.2.1 31 = .ok (.aload_n 0, 1) := by decide +kernel
theorem dk_Co_init_32 : decode mi_Co_init.2.1 32 = .ok (.iconst 0, 1) := by decide +kernel
theorem dk_Co_init_33 : decode mi_Co_init.2.1 33 = .ok (.putfield 25, 3) := by decide +kernel
theorem dk_Co_init_36 : decode mi_Co_init.2.1 36 = .ok (.aload_n 0, 1) := by decide +kernel
theorem dk_Co_init_37 : decode mi_Co_init.2.1 37 = .ok (.iconst 0, 1) := by decide +kernel
theorem dk_Co_init_38 : decode mi_Co_init.2.1 38 = .ok (.putfield 28, 3) := by decide +kernel
theorem dk_Co_init_41 : decode mi_Co_init.2.1 41 = .ok (.return_, 1) := by decide +kernel
theorem kw_Co_init : nm_CW mi_Co_init 0 := ⟨wd_184, ⟨by decide +kernel, by decide +kernel, by decide +kernel⟩, wd_83, rfl⟩
abbrev mi_Tr_init : nm_M := (⟨"NoneMayLeave$TextReader", "<init>", "()V"⟩, prog_7_method_1_code, 1, none)
theorem dk_Tr_init_0 : decode mi_Tr_init.2.1 0 = .ok (.aload_n 0, 1) := by decide +kernel
theorem dk_Tr_init_1 : decode mi_Tr_init.2.1 1 = .ok (.invokespecial 3, 3) := by decide +kernel
theorem dk_Tr_init_4 : decode mi_Tr_init.2.1 4 = .ok (.aload_n 0, 1) := by decide +kernel
theorem dk_Tr_init_5 : decode mi_Tr_init.2.1 5 = .ok (.new 9, 3) := by decide +kernel
theorem dk_Tr_init_8 : decode mi_Tr_init.2.1 8 = .ok (.dup, 1) := by decide +kernel
theorem dk_Tr_init_9 : decode mi_Tr_init.2.1 9 = .ok (.invokespecial 11, 3) := by decide +kernel
theorem dk_Tr_init_12 : decode mi_Tr_init.2.1 12 = .ok (.putfield 12, 3) := by decide +kernel
theorem dk_Tr_init_15 : decode mi_Tr_init.2.1 15 = .ok (.aload_n 0, 1) := by decide +kernel
theorem dk_Tr_init_16 : decode mi_Tr_init.2.1 16 = .ok (.sipush 160, 3) := by decide +kernel
theorem dk_Tr_init_19 : decode mi_Tr_init.2.1 19 = .ok (.newarray .int, 2) := by decide +kernel
theorem dk_Tr_init_21 : decode mi_Tr_init.2.1 21 = .ok (.putfield 18, 3) := by decide +kernel
theorem dk_Tr_init_24 : decode mi_Tr_init.2.1 24 = .ok (.aload_n 0, 1) := by decide +kernel
theorem dk_Tr_init_25 : decode mi_Tr_init.2.1 25 = .ok (.iconst 0, 1) := by decide +kernel
theorem dk_Tr_init_26 : decode mi_Tr_init.2.1 26 = .ok (.putfield 22, 3) := by decide +kernel
theorem dk_Tr_init_29 : decode mi_Tr_init.2.1 29 = .ok (.aload_n 0, 1) := by decide +kernel
theorem dk_Tr_init_30 : decode mi_Tr_init.2.1 30 = .ok (.iconst 0, 1) := by decide +kernel
theorem dk_Tr_init_31 : decode mi_Tr_init.2.1 31 = .ok (.putfield 26, 3) := by decide +kernel
theorem dk_Tr_init_34 : decode mi_Tr_init.2.1 34 = .ok (.aload_n 0, 1) := by decide +kernel
theorem dk_Tr_init_35 : decode mi_Tr_init.2.1 35 = .ok (.iconst 0, 1) := by decide +kernel
theorem dk_Tr_init_36 : decode mi_Tr_init.2.1 36 = .ok (.putfield 29, 3) := by decide +kernel
theorem dk_Tr_init_39 : decode mi_Tr_init.2.1 39 = .ok (.aload_n 0, 1) := by decide +kernel
theorem dk_Tr_init_40 : decode mi_Tr_init.2.1 40 = .ok (.iconst 0, 1) := by decide +kernel
theorem dk_Tr_init_41 : decode mi_Tr_init.2.1 41 = .ok (.putfield 32, 3) := by decide +kernel
theorem dk_Tr_init_44 : decode mi_Tr_init.2.1 44 = .ok (.aload_n 0, 1) := by decide +kernel
theorem dk_Tr_init_45 : decode mi_Tr_init.2.1 45 = .ok (.iconst (-1), 1) := by decide +kernel
theorem dk_Tr_init_46 : decode mi_Tr_init.2.1 46 = .ok (.putfield 35, 3) := by decide +kernel
theorem dk_Tr_init_49 : decode mi_Tr_init.2.1 49 = .ok (.return_, 1) := by decide +kernel
theorem kw_Tr_init : nm_CW mi_Tr_init 0 := ⟨wd_211, ⟨by decide +kernel, by decide +kernel, by decide +kernel⟩, wd_84, rfl⟩
abbrev mi_Nm_init : nm_M := (⟨"NoneMayLeave", "<init>", "()V"⟩, prog_1_method_1_code, 2, none)
theorem dk_Nm_init_0 : decode mi_Nm_init.2.1 0 = .ok (.aload_n 0, 1) := by decide +kernel
theorem dk_Nm_init_1 : decode mi_Nm_init.2.1 1 = .ok (.invokespecial 1, 3) := by decide +kernel
theorem dk_Nm_init_4 : decode mi_Nm_init.2.1 4 = .ok (.aload_n 0, 1) := by decide +kernel
theorem dk_Nm_init_5 : decode mi_Nm_init.2.1 5 = .ok (.bipush 8, 2) := by decide +kernel
theorem dk_Nm_init_7 : decode mi_Nm_init.2.1 7 = .ok (.anewarray 9, 3) := by decide +kernel
theorem dk_Nm_init_10 : decode mi_Nm_init.2.1 10 = .ok (.putfield 11, 3) := by decide +kernel
theorem dk_Nm_init_13 : decode mi_Nm_init.2.1 13 = .ok (.aload_n 0, 1) := by decide +kernel
theorem dk_Nm_init_14 : decode mi_Nm_init.2.1 14 = .ok (.new 15, 3) := by decide +kernel
theorem dk_Nm_init_17 : decode mi_Nm_init.2.1 17 = .ok (.dup, 1) := by decide +kernel
theorem dk_Nm_init_18 : decode mi_Nm_init.2.1 18 = .ok (.invokespecial 17, 3) := by decide +kernel
theorem dk_Nm_init_21 : decode mi_Nm_init.2.1 21 = .ok (.putfield 18, 3) := by decide +kernel
theorem dk_Nm_init_24 : decode mi_Nm_init.2.1 24 = .ok (.aload_n 0, 1) := by decide +kernel
theorem dk_Nm_init_25 : decode mi_Nm_init.2.1 25 = .ok (.new 15, 3) := by decide +kernel
theorem dk_Nm_init_28 : decode mi_Nm_init.2.1 28 = .ok (.dup, 1) := by decide +kernel
theorem dk_Nm_init_29 : decode mi_Nm_init.2.1 29 = .ok (.invokespecial 17, 3) := by decide +kernel
theorem dk_Nm_init_32 : decode mi_Nm_init.2.1 32 = .ok (.putfield 22, 3) := by decide +kernel
theorem dk_Nm_init_35 : decode mi_Nm_init.2.1 35 = .ok (.aload_n 0, 1) := by decide +kernel
theorem dk_Nm_init_36 : decode mi_Nm_init.2.1 36 = .ok (.new 15, 3) := by decide +kernel
theorem dk_Nm_init_39 : decode mi_Nm_init.2.1 39 = .ok (.dup, 1) := by decide +kernel
theorem dk_Nm_init_40 : decode mi_Nm_init.2.1 40 = .ok (.invokespecial 17, 3) := by decide +kernel
theorem dk_Nm_init_43 : decode mi_Nm_init.2.1 43 = .ok (.putfield 25, 3) := by decide +kernel
theorem dk_Nm_init_46 : decode mi_Nm_init.2.1 46 = .ok (.aload_n 0, 1) := by decide +kernel
theorem dk_Nm_init_47 : decode mi_Nm_init.2.1 47 = .ok (.new 28, 3) := by decide +kernel
theorem dk_Nm_init_50 : decode mi_Nm_init.2.1 50 = .ok (.dup, 1) := by decide +kernel
theorem dk_Nm_init_51 : decode mi_Nm_init.2.1 51 = .ok (.invokespecial 30, 3) := by decide +kernel
theorem dk_Nm_init_54 : decode mi_Nm_init.2.1 54 = .ok (.putfield 31, 3) := by decide +kernel
theorem dk_Nm_init_57 : decode mi_Nm_init.2.1 57 = .ok (.aload_n 0, 1) := by decide +kernel
theorem dk_Nm_init_58 : decode mi_Nm_init.2.1 58 = .ok (.new 35, 3) := by decide +kernel
theorem dk_Nm_init_61 : decode mi_Nm_init.2.1 61 = .ok (.dup, 1) := by decide +kernel
theorem dk_Nm_init_62 : decode mi_Nm_init.2.1 62 = .ok (.invokespecial 37, 3) := by decide +kernel
theorem dk_Nm_init_65 : decode mi_Nm_init.2.1 65 = .ok (.putfield 38, 3) := by decide +kernel
theorem dk_Nm_init_68 : decode mi_Nm_init.2.1 68 = .ok (.aload_n 0, 1) := by decide +kernel
theorem dk_Nm_init_69 : decode mi_Nm_init.2.1 69 = .ok (.new 42, 3) := by decide +kernel
theorem dk_Nm_init_72 : decode mi_Nm_init.2.1 72 = .ok (.dup, 1) := by decide +kernel
theorem dk_Nm_init_73 : decode mi_Nm_init.2.1 73 = .ok (.invokespecial 44, 3) := by decide +kernel
theorem dk_Nm_init_76 : decode mi_Nm_init.2.1 76 = .ok (.putfield 45, 3) := by decide +kernel
theorem dk_Nm_init_79 : decode mi_Nm_init.2.1 79 = .ok (.aload_n 0, 1) := by decide +kernel
theorem dk_Nm_init_80 : decode mi_Nm_init.2.1 80 = .ok (.new 49, 3) := by decide +kernel
theorem dk_Nm_init_83 : decode mi_Nm_init.2.1 83 = .ok (.dup, 1) := by decide +kernel
theorem dk_Nm_init_84 : decode mi_Nm_init.2.1 84 = .ok (.invokespecial 51, 3) := by decide +kernel
theorem dk_Nm_init_87 : decode mi_Nm_init.2.1 87 = .ok (.putfield 52, 3) := by decide +kernel
theorem dk_Nm_init_90 : decode mi_Nm_init.2.1 90 = .ok (.aload_n 0, 1) := by decide +kernel
theorem dk_Nm_init_91 : decode mi_Nm_init.2.1 91 = .ok (.bipush 8, 2) := by decide +kernel
theorem dk_Nm_init_93 : decode mi_Nm_init.2.1 93 = .ok (.newarray .int, 2) := by decide +kernel
theorem dk_Nm_init_95 : decode mi_Nm_init.2.1 95 = .ok (.putfield 56, 3) := by decide +kernel
theorem dk_Nm_init_98 : decode mi_Nm_init.2.1 98 = .ok (.aload_n 0, 1) := by decide +kernel
theorem dk_Nm_init_99 : decode mi_Nm_init.2.1 99 = .ok (.iconst 0, 1) := by decide +kernel
theorem dk_Nm_init_100 : decode mi_Nm_init.2.1 100 = .ok (.putfield 60, 3) := by decide +kernel
theorem dk_Nm_init_103 : decode mi_Nm_init.2.1 103 = .ok (.aload_n 0, 1) := by decide +kernel
theorem dk_Nm_init_104 : decode mi_Nm_init.2.1 104 = .ok (.iconst (-1), 1) := by decide +kernel
theorem dk_Nm_init_105 : decode mi_Nm_init.2.1 105 = .ok (.putfield 64, 3) := by decide +kernel
theorem dk_Nm_init_108 : decode mi_Nm_init.2.1 108 = .ok (.iconst 0, 1) := by decide +kernel
theorem dk_Nm_init_109 : decode mi_Nm_init.2.1 109 = .ok (.istore_n 1, 1) := by decide +kernel
theorem dk_Nm_init_110 : decode mi_Nm_init.2.1 110 = .ok (.iload_n 1, 1) := by decide +kernel
theorem dk_Nm_init_111 : decode mi_Nm_init.2.1 111 = .ok (.bipush 8, 2) := by decide +kernel
theorem dk_Nm_init_113 : decode mi_Nm_init.2.1 113 = .ok (.if_icmp .ge 22, 3) := by decide +kernel
theorem dk_Nm_init_116 : decode mi_Nm_init.2.1 116 = .ok (.aload_n 0, 1) := by decide +kernel
theorem dk_Nm_init_117 : decode mi_Nm_init.2.1 117 = .ok (.getfield 11, 3) := by decide +kernel
theorem dk_Nm_init_120 : decode mi_Nm_init.2.1 120 = .ok (.iload_n 1, 1) := by decide +kernel
theorem dk_Nm_init_121 : decode mi_Nm_init.2.1 121 = .ok (.new 9, 3) := by decide +kernel
theorem dk_Nm_init_124 : decode mi_Nm_init.2.1 124 = .ok (.dup, 1) := by decide +kernel
theorem dk_Nm_init_125 : decode mi_Nm_init.2.1 125 = .ok (.invokespecial 68, 3) := by decide +kernel
theorem dk_Nm_init_128 : decode mi_Nm_init.2.1 128 = .ok (.aastore, 1) := by decide +kernel
theorem dk_Nm_init_129 : decode mi_Nm_init.2.1 129 = .ok (.iinc 1 1, 3) := by decide +kernel
theorem dk_Nm_init_132 : decode mi_Nm_init.2.1 132 = .ok (.goto (-22), 3) := by decide +kernel
theorem dk_Nm_init_135 : decode mi_Nm_init.2.1 135 = .ok (.return_, 1) := by decide +kernel
theorem kw_Nm_init : nm_CW mi_Nm_init 0 := ⟨wd_99, ⟨by decide +kernel, by decide +kernel, by decide +kernel⟩, wd_80, rfl⟩
abbrev mi_Md_init : nm_M := (⟨"NoneMayLeaveModel", "<init>", "()V"⟩, prog_9_method_1_code, 1, none)
theorem dk_Md_init_0 : decode mi_Md_init.2.1 0 = .ok (.aload_n 0, 1) := by decide +kernel
theorem dk_Md_init_1 : decode mi_Md_init.2.1 1 = .ok (.invokespecial 1, 3) := by decide +kernel
theorem dk_Md_init_4 : decode mi_Md_init.2.1 4 = .ok (.aload_n 0, 1) := by decide +kernel
theorem dk_Md_init_5 : decode mi_Md_init.2.1 5 = .ok (.iconst 4, 1) := by decide +kernel
theorem dk_Md_init_6 : decode mi_Md_init.2.1 6 = .ok (.putfield 7, 3) := by decide +kernel
theorem dk_Md_init_9 : decode mi_Md_init.2.1 9 = .ok (.aload_n 0, 1) := by decide +kernel
theorem dk_Md_init_10 : decode mi_Md_init.2.1 10 = .ok (.bipush 100, 2) := by decide +kernel
theorem dk_Md_init_12 : decode mi_Md_init.2.1 12 = .ok (.putfield 13, 3) := by decide +kernel
theorem dk_Md_init_15 : decode mi_Md_init.2.1 15 = .ok (.aload_n 0, 1) := by decide +kernel
theorem dk_Md_init_16 : decode mi_Md_init.2.1 16 = .ok (.iconst 1, 1) := by decide +kernel
theorem dk_Md_init_17 : decode mi_Md_init.2.1 17 = .ok (.putfield 16, 3) := by decide +kernel
theorem dk_Md_init_20 : decode mi_Md_init.2.1 20 = .ok (.aload_n 0, 1) := by decide +kernel
theorem dk_Md_init_21 : decode mi_Md_init.2.1 21 = .ok (.iconst (-1), 1) := by decide +kernel
theorem dk_Md_init_22 : decode mi_Md_init.2.1 22 = .ok (.putfield 19, 3) := by decide +kernel
theorem dk_Md_init_25 : decode mi_Md_init.2.1 25 = .ok (.aload_n 0, 1) := by decide +kernel
theorem dk_Md_init_26 : decode mi_Md_init.2.1 26 = .ok (.bipush 8, 2) := by decide +kernel
theorem dk_Md_init_28 : decode mi_Md_init.2.1 28 = .ok (.newarray .int, 2) := by decide +kernel
theorem dk_Md_init_30 : decode mi_Md_init.2.1 30 = .ok (.putfield 22, 3) := by decide +kernel
theorem dk_Md_init_33 : decode mi_Md_init.2.1 33 = .ok (.aload_n 0, 1) := by decide +kernel
theorem dk_Md_init_34 : decode mi_Md_init.2.1 34 = .ok (.bipush 8, 2) := by decide +kernel
theorem dk_Md_init_36 : decode mi_Md_init.2.1 36 = .ok (.newarray .int, 2) := by decide +kernel
theorem dk_Md_init_38 : decode mi_Md_init.2.1 38 = .ok (.putfield 26, 3) := by decide +kernel
theorem dk_Md_init_41 : decode mi_Md_init.2.1 41 = .ok (.aload_n 0, 1) := by decide +kernel
theorem dk_Md_init_42 : decode mi_Md_init.2.1 42 = .ok (.bipush 8, 2) := by decide +kernel
theorem dk_Md_init_44 : decode mi_Md_init.2.1 44 = .ok (.newarray .int, 2) := by decide +kernel
theorem dk_Md_init_46 : decode mi_Md_init.2.1 46 = .ok (.putfield 29, 3) := by decide +kernel
theorem dk_Md_init_49 : decode mi_Md_init.2.1 49 = .ok (.aload_n 0, 1) := by decide +kernel
theorem dk_Md_init_50 : decode mi_Md_init.2.1 50 = .ok (.bipush 8, 2) := by decide +kernel
theorem dk_Md_init_52 : decode mi_Md_init.2.1 52 = .ok (.newarray .int, 2) := by decide +kernel
theorem dk_Md_init_54 : decode mi_Md_init.2.1 54 = .ok (.putfield 32, 3) := by decide +kernel
theorem dk_Md_init_57 : decode mi_Md_init.2.1 57 = .ok (.aload_n 0, 1) := by decide +kernel
theorem dk_Md_init_58 : decode mi_Md_init.2.1 58 = .ok (.bipush 8, 2) := by decide +kernel
theorem dk_Md_init_60 : decode mi_Md_init.2.1 60 = .ok (.newarray .int, 2) := by decide +kernel
theorem dk_Md_init_62 : decode mi_Md_init.2.1 62 = .ok (.putfield 35, 3) := by decide +kernel
theorem dk_Md_init_65 : decode mi_Md_init.2.1 65 = .ok (.aload_n 0, 1) := by decide +kernel
theorem dk_Md_init_66 : decode mi_Md_init.2.1 66 = .ok (.bipush 8, 2) := by decide +kernel
theorem dk_Md_init_68 : decode mi_Md_init.2.1 68 = .ok (.newarray .int, 2) := by decide +kernel
theorem dk_Md_init_70 : decode mi_Md_init.2.1 70 = .ok (.putfield 38, 3) := by decide +kernel
theorem dk_Md_init_73 : decode mi_Md_init.2.1 73 = .ok (.aload_n 0, 1) := by decide +kernel
theorem dk_Md_init_74 : decode mi_Md_init.2.1 74 = .ok (.bipush 8, 2) := by decide +kernel
theorem dk_Md_init_76 : decode mi_Md_init.2.1 76 = .ok (.newarray .int, 2) := by decide +kernel
theorem dk_Md_init_78 : decode mi_Md_init.2.1 78 = .ok (.putfield 41, 3) := by decide +kernel
theorem dk_Md_init_81 : decode mi_Md_init.2.1 81 = .ok (.aload_n 0, 1) := by decide +kernel
theorem dk_Md_init_82 : decode mi_Md_init.2.1 82 = .ok (.bipush 8, 2) := by decide +kernel
theorem dk_Md_init_84 : decode mi_Md_init.2.1 84 = .ok (.newarray .int, 2) := by decide +kernel
theorem dk_Md_init_86 : decode mi_Md_init.2.1 86 = .ok (.putfield 44, 3) := by decide +kernel
theorem dk_Md_init_89 : decode mi_Md_init.2.1 89 = .ok (.aload_n 0, 1) := by decide +kernel
theorem dk_Md_init_90 : decode mi_Md_init.2.1 90 = .ok (.bipush 8, 2) := by decide +kernel
theorem dk_Md_init_92 : decode mi_Md_init.2.1 92 = .ok (.newarray .int, 2) := by decide +kernel
theorem dk_Md_init_94 : decode mi_Md_init.2.1 94 = .ok (.putfield 47, 3) := by decide +kernel
theorem dk_Md_init_97 : decode mi_Md_init.2.1 97 = .ok (.aload_n 0, 1) := by decide +kernel
theorem dk_Md_init_98 : decode mi_Md_init.2.1 98 = .ok (.bipush 8, 2) := by decide +kernel
theorem dk_Md_init_100 : decode mi_Md_init.2.1 100 = .ok (.newarray .int, 2) := by decide +kernel
theorem dk_Md_init_102 : decode mi_Md_init.2.1 102 = .ok (.putfield 50, 3) := by decide +kernel
theorem dk_Md_init_105 : decode mi_Md_init.2.1 105 = .ok (.aload_n 0, 1) := by decide +kernel
theorem dk_Md_init_106 : decode mi_Md_init.2.1 106 = .ok (.bipush 8, 2) := by decide +kernel
theorem dk_Md_init_108 : decode mi_Md_init.2.1 108 = .ok (.newarray .int, 2) := by decide +kernel
theorem dk_Md_init_110 : decode mi_Md_init.2.1 110 = .ok (.putfield 53, 3) := by decide +kernel
theorem dk_Md_init_113 : decode mi_Md_init.2.1 113 = .ok (.aload_n 0, 1) := by decide +kernel
theorem dk_Md_init_114 : decode mi_Md_init.2.1 114 = .ok (.sipush 1280, 3) := by decide +kernel
theorem dk_Md_init_117 : decode mi_Md_init.2.1 117 = .ok (.newarray .long, 2) := by decide +kernel
theorem dk_Md_init_119 : decode mi_Md_init.2.1 119 = .ok (.putfield 56, 3) := by decide +kernel
theorem dk_Md_init_122 : decode mi_Md_init.2.1 122 = .ok (.aload_n 0, 1) := by decide +kernel
theorem dk_Md_init_123 : decode mi_Md_init.2.1 123 = .ok (.sipush 160, 3) := by decide +kernel
theorem dk_Md_init_126 : decode mi_Md_init.2.1 126 = .ok (.newarray .long, 2) := by decide +kernel
theorem dk_Md_init_128 : decode mi_Md_init.2.1 128 = .ok (.putfield 60, 3) := by decide +kernel
theorem dk_Md_init_131 : decode mi_Md_init.2.1 131 = .ok (.aload_n 0, 1) := by decide +kernel
theorem dk_Md_init_132 : decode mi_Md_init.2.1 132 = .ok (.bipush 51, 2) := by decide +kernel
theorem dk_Md_init_134 : decode mi_Md_init.2.1 134 = .ok (.newarray .int, 2) := by decide +kernel
theorem dk_Md_init_136 : decode mi_Md_init.2.1 136 = .ok (.dup, 1) := by decide +kernel
theorem dk_Md_init_137 : decode mi_Md_init.2.1 137 = .ok (.iconst 0, 1) := by decide +kernel
theorem dk_Md_init_138 : decode mi_Md_init.2.1 138 = .ok (.bipush 112, 2) := by decide +kernel
theorem dk_Md_init_140 : decode mi_Md_init.2.1 140 = .ok (.iastore, 1) := by decide +kernel
theorem dk_Md_init_141 : decode mi_Md_init.2.1 141 = .ok (.dup, 1) := by decide +kernel
theorem dk_Md_init_142 : decode mi_Md_init.2.1 142 = .ok (.iconst 1, 1) := by decide +kernel
theorem dk_Md_init_143 : decode mi_Md_init.2.1 143 = .ok (.bipush 97, 2) := by decide +kernel
theorem dk_Md_init_145 : decode mi_Md_init.2.1 145 = .ok (.iastore, 1) := by decide +kernel
theorem dk_Md_init_146 : decode mi_Md_init.2.1 146 = .ok (.dup, 1) := by decide +kernel
theorem dk_Md_init_147 : decode mi_Md_init.2.1 147 = .ok (.iconst 2, 1) := by decide +kernel
theorem dk_Md_init_148 : decode mi_Md_init.2.1 148 = .ok (.bipush 114, 2) := by decide +kernel
theorem dk_Md_init_150 : decode mi_Md_init.2.1 150 = .ok (.iastore, 1) := by decide +kernel
theorem dk_Md_init_151 : decode mi_Md_init.2.1 151 = .ok (.dup, 1) := by decide +kernel
theorem dk_Md_init_152 : decode mi_Md_init.2.1 152 = .ok (.iconst 3, 1) := by decide +kernel
theorem dk_Md_init_153 : decode mi_Md_init.2.1 153 = .ok (.bipush 116, 2) := by decide +kernel
theorem dk_Md_init_155 : decode mi_Md_init.2.1 155 = .ok (.iastore, 1) := by decide +kernel
theorem dk_Md_init_156 : decode mi_Md_init.2.1 156 = .ok (.dup, 1) := by decide +kernel
theorem dk_Md_init_157 : decode mi_Md_init.2.1 157 = .ok (.iconst 4, 1) := by decide +kernel
theorem dk_Md_init_158 : decode mi_Md_init.2.1 158 = .ok (.bipush 115, 2) := by decide +kernel
theorem dk_Md_init_160 : decode mi_Md_init.2.1 160 = .ok (.iastore, 1) := by decide +kernel
theorem dk_Md_init_161 : decode mi_Md_init.2.1 161 = .ok (.dup, 1) := by decide +kernel
theorem dk_Md_init_162 : decode mi_Md_init.2.1 162 = .ok (.iconst 5, 1) := by decide +kernel
theorem dk_Md_init_163 : decode mi_Md_init.2.1 163 = .ok (.bipush 32, 2) := by decide +kernel
theorem dk_Md_init_165 : decode mi_Md_init.2.1 165 = .ok (.iastore, 1) := by decide +kernel
theorem dk_Md_init_166 : decode mi_Md_init.2.1 166 = .ok (.dup, 1) := by decide +kernel
theorem dk_Md_init_167 : decode mi_Md_init.2.1 167 = .ok (.bipush 6, 2) := by decide +kernel
theorem dk_Md_init_169 : decode mi_Md_init.2.1 169 = .ok (.iconst 0, 1) := by decide +kernel
theorem dk_Md_init_170 : decode mi_Md_init.2.1 170 = .ok (.iastore, 1) := by decide +kernel
theorem dk_Md_init_171 : decode mi_Md_init.2.1 171 = .ok (.dup, 1) := by decide +kernel
theorem dk_Md_init_172 : decode mi_Md_init.2.1 172 = .ok (.bipush 7, 2) := by decide +kernel
theorem dk_Md_init_174 : decode mi_Md_init.2.1 174 = .ok (.bipush 109, 2) := by decide +kernel
theorem dk_Md_init_176 : decode mi_Md_init.2.1 176 = .ok (.iastore, 1) := by decide +kernel
theorem dk_Md_init_177 : decode mi_Md_init.2.1 177 = .ok (.dup, 1) := by decide +kernel
theorem dk_Md_init_178 : decode mi_Md_init.2.1 178 = .ok (.bipush 8, 2) := by decide +kernel
theorem dk_Md_init_180 : decode mi_Md_init.2.1 180 = .ok (.bipush 97, 2) := by decide +kernel
theorem dk_Md_init_182 : decode mi_Md_init.2.1 182 = .ok (.iastore, 1) := by decide +kernel
theorem dk_Md_init_183 : decode mi_Md_init.2.1 183 = .ok (.dup, 1) := by decide +kernel
theorem dk_Md_init_184 : decode mi_Md_init.2.1 184 = .ok (.bipush 9, 2) := by decide +kernel
theorem dk_Md_init_186 : decode mi_Md_init.2.1 186 = .ok (.bipush 107, 2) := by decide +kernel
theorem dk_Md_init_188 : decode mi_Md_init.2.1 188 = .ok (.iastore, 1) := by decide +kernel
theorem dk_Md_init_189 : decode mi_Md_init.2.1 189 = .ok (.dup, 1) := by decide +kernel
theorem dk_Md_init_190 : decode mi_Md_init.2.1 190 = .ok (.bipush 10, 2) := by decide +kernel
theorem dk_Md_init_192 : decode mi_Md_init.2.1 192 = .ok (.bipush 101, 2) := by decide +kernel
theorem dk_Md_init_194 : decode mi_Md_init.2.1 194 = .ok (.iastore, 1) := by decide +kernel
theorem dk_Md_init_195 : decode mi_Md_init.2.1 195 = .ok (.dup, 1) := by decide +kernel
theorem dk_Md_init_196 : decode mi_Md_init.2.1 196 = .ok (.bipush 11, 2) := by decide +kernel
theorem dk_Md_init_198 : decode mi_Md_init.2.1 198 = .ok (.bipush 114, 2) := by decide +kernel
theorem dk_Md_init_200 : decode mi_Md_init.2.1 200 = .ok (.iastore, 1) := by decide +kernel
theorem dk_Md_init_201 : decode mi_Md_init.2.1 201 = .ok (.dup, 1) := by decide +kernel
theorem dk_Md_init_202 : decode mi_Md_init.2.1 202 = .ok (.bipush 12, 2) := by decide +kernel
theorem dk_Md_init_204 : decode mi_Md_init.2.1 204 = .ok (.bipush 32, 2) := by decide +kernel
theorem dk_Md_init_206 : decode mi_Md_init.2.1 206 = .ok (.iastore, 1) := by decide +kernel
theorem dk_Md_init_207 : decode mi_Md_init.2.1 207 = .ok (.dup, 1) := by decide +kernel
theorem dk_Md_init_208 : decode mi_Md_init.2.1 208 = .ok (.bipush 13, 2) := by decide +kernel
theorem dk_Md_init_210 : decode mi_Md_init.2.1 210 = .ok (.iconst 0, 1) := by decide +kernel
theorem dk_Md_init_211 : decode mi_Md_init.2.1 211 = .ok (.iastore, 1) := by decide +kernel
theorem dk_Md_init_212 : decode mi_Md_init.2.1 212 = .ok (.dup, 1) := by decide +kernel
theorem dk_Md_init_213 : decode mi_Md_init.2.1 213 = .ok (.bipush 14, 2) := by decide +kernel
theorem dk_Md_init_215 : decode mi_Md_init.2.1 215 = .ok (.bipush 107, 2) := by decide +kernel
theorem dk_Md_init_217 : decode mi_Md_init.2.1 217 = .ok (.iastore, 1) := by decide +kernel
theorem dk_Md_init_218 : decode mi_Md_init.2.1 218 = .ok (.dup, 1) := by decide +kernel
theorem dk_Md_init_219 : decode mi_Md_init.2.1 219 = .ok (.bipush 15, 2) := by decide +kernel
theorem dk_Md_init_221 : decode mi_Md_init.2.1 221 = .ok (.bipush 110, 2) := by decide +kernel
theorem dk_Md_init_223 : decode mi_Md_init.2.1 223 = .ok (.iastore, 1) := by decide +kernel
theorem dk_Md_init_224 : decode mi_Md_init.2.1 224 = .ok (.dup, 1) := by decide +kernel
theorem dk_Md_init_225 : decode mi_Md_init.2.1 225 = .ok (.bipush 16, 2) := by decide +kernel
theorem dk_Md_init_227 : decode mi_Md_init.2.1 227 = .ok (.bipush 111, 2) := by decide +kernel
theorem dk_Md_init_229 : decode mi_Md_init.2.1 229 = .ok (.iastore, 1) := by decide +kernel
theorem dk_Md_init_230 : decode mi_Md_init.2.1 230 = .ok (.dup, 1) := by decide +kernel
theorem dk_Md_init_231 : decode mi_Md_init.2.1 231 = .ok (.bipush 17, 2) := by decide +kernel
theorem dk_Md_init_233 : decode mi_Md_init.2.1 233 = .ok (.bipush 119, 2) := by decide +kernel
theorem dk_Md_init_235 : decode mi_Md_init.2.1 235 = .ok (.iastore, 1) := by decide +kernel
theorem dk_Md_init_236 : decode mi_Md_init.2.1 236 = .ok (.dup, 1) := by decide +kernel
theorem dk_Md_init_237 : decode mi_Md_init.2.1 237 = .ok (.bipush 18, 2) := by decide +kernel
theorem dk_Md_init_239 : decode mi_Md_init.2.1 239 = .ok (.bipush 115, 2) := by decide +kernel
theorem dk_Md_init_241 : decode mi_Md_init.2.1 241 = .ok (.iastore, 1) := by decide +kernel
theorem dk_Md_init_242 : decode mi_Md_init.2.1 242 = .ok (.dup, 1) := by decide +kernel
theorem dk_Md_init_243 : decode mi_Md_init.2.1 243 = .ok (.bipush 19, 2) := by decide +kernel
theorem dk_Md_init_245 : decode mi_Md_init.2.1 245 = .ok (.bipush 32, 2) := by decide +kernel
theorem dk_Md_init_247 : decode mi_Md_init.2.1 247 = .ok (.iastore, 1) := by decide +kernel
theorem dk_Md_init_248 : decode mi_Md_init.2.1 248 = .ok (.dup, 1) := by decide +kernel
theorem dk_Md_init_249 : decode mi_Md_init.2.1 249 = .ok (.bipush 20, 2) := by decide +kernel
theorem dk_Md_init_251 : decode mi_Md_init.2.1 251 = .ok (.iconst 0, 1) := by decide +kernel
theorem dk_Md_init_252 : decode mi_Md_init.2.1 252 = .ok (.iastore, 1) := by decide +kernel
theorem dk_Md_init_253 : decode mi_Md_init.2.1 253 = .ok (.dup, 1) := by decide +kernel
theorem dk_Md_init_254 : decode mi_Md_init.2.1 254 = .ok (.bipush 21, 2) := by decide +kernel
theorem dk_Md_init_256 : decode mi_Md_init.2.1 256 = .ok (.bipush 107, 2) := by decide +kernel
theorem dk_Md_init_258 : decode mi_Md_init.2.1 258 = .ok (.iastore, 1) := by decide +kernel
theorem dk_Md_init_259 : decode mi_Md_init.2.1 259 = .ok (.dup, 1) := by decide +kernel
theorem dk_Md_init_260 : decode mi_Md_init.2.1 260 = .ok (.bipush 22, 2) := by decide +kernel
theorem dk_Md_init_262 : decode mi_Md_init.2.1 262 = .ok (.bipush 105, 2) := by decide +kernel
theorem dk_Md_init_264 : decode mi_Md_init.2.1 264 = .ok (.iastore, 1) := by decide +kernel
theorem dk_Md_init_265 : decode mi_Md_init.2.1 265 = .ok (.dup, 1) := by decide +kernel
theorem dk_Md_init_266 : decode mi_Md_init.2.1 266 = .ok (.bipush 23, 2) := by decide +kernel
theorem dk_Md_init_268 : decode mi_Md_init.2.1 268 = .ok (.bipush 110, 2) := by decide +kernel
theorem dk_Md_init_270 : decode mi_Md_init.2.1 270 = .ok (.iastore, 1) := by decide +kernel
theorem dk_Md_init_271 : decode mi_Md_init.2.1 271 = .ok (.dup, 1) := by decide +kernel
theorem dk_Md_init_272 : decode mi_Md_init.2.1 272 = .ok (.bipush 24, 2) := by decide +kernel
theorem dk_Md_init_274 : decode mi_Md_init.2.1 274 = .ok (.bipush 32, 2) := by decide +kernel
theorem dk_Md_init_276 : decode mi_Md_init.2.1 276 = .ok (.iastore, 1) := by decide +kernel
theorem dk_Md_init_277 : decode mi_Md_init.2.1 277 = .ok (.dup, 1) := by decide +kernel
theorem dk_Md_init_278 : decode mi_Md_init.2.1 278 = .ok (.bipush 25, 2) := by decide +kernel
theorem dk_Md_init_280 : decode mi_Md_init.2.1 280 = .ok (.iconst 0, 1) := by decide +kernel
theorem dk_Md_init_281 : decode mi_Md_init.2.1 281 = .ok (.iastore, 1) := by decide +kernel
theorem dk_Md_init_282 : decode mi_Md_init.2.1 282 = .ok (.dup, 1) := by decide +kernel
theorem dk_Md_init_283 : decode mi_Md_init.2.1 283 = .ok (.bipush 26, 2) := by decide +kernel
theorem dk_Md_init_285 : decode mi_Md_init.2.1 285 = .ok (.bipush 102, 2) := by decide +kernel
theorem dk_Md_init_287 : decode mi_Md_init.2.1 287 = .ok (.iastore, 1) := by decide +kernel
theorem dk_Md_init_288 : decode mi_Md_init.2.1 288 = .ok (.dup, 1) := by decide +kernel
theorem dk_Md_init_289 : decode mi_Md_init.2.1 289 = .ok (.bipush 27, 2) := by decide +kernel
theorem dk_Md_init_291 : decode mi_Md_init.2.1 291 = .ok (.bipush 101, 2) := by decide +kernel
theorem dk_Md_init_293 : decode mi_Md_init.2.1 293 = .ok (.iastore, 1) := by decide +kernel
theorem dk_Md_init_294 : decode mi_Md_init.2.1 294 = .ok (.dup, 1) := by decide +kernel
theorem dk_Md_init_295 : decode mi_Md_init.2.1 295 = .ok (.bipush 28, 2) := by decide +kernel
theorem dk_Md_init_297 : decode mi_Md_init.2.1 297 = .ok (.bipush 97, 2) := by decide +kernel
theorem dk_Md_init_299 : decode mi_Md_init.2.1 299 = .ok (.iastore, 1) := by decide +kernel
theorem dk_Md_init_300 : decode mi_Md_init.2.1 300 = .ok (.dup, 1) := by decide +kernel
theorem dk_Md_init_301 : decode mi_Md_init.2.1 301 = .ok (.bipush 29, 2) := by decide +kernel
theorem dk_Md_init_303 : decode mi_Md_init.2.1 303 = .ok (.bipush 114, 2) := by decide +kernel
theorem dk_Md_init_305 : decode mi_Md_init.2.1 305 = .ok (.iastore, 1) := by decide +kernel
theorem dk_Md_init_306 : decode mi_Md_init.2.1 306 = .ok (.dup, 1) := by decide +kernel
theorem dk_Md_init_307 : decode mi_Md_init.2.1 307 = .ok (.bipush 30, 2) := by decide +kernel
theorem dk_Md_init_309 : decode mi_Md_init.2.1 309 = .ok (.bipush 32, 2) := by decide +kernel
theorem dk_Md_init_311 : decode mi_Md_init.2.1 311 = .ok (.iastore, 1) := by decide +kernel
theorem dk_Md_init_312 : decode mi_Md_init.2.1 312 = .ok (.dup, 1) := by decide +kernel
theorem dk_Md_init_313 : decode mi_Md_init.2.1 313 = .ok (.bipush 31, 2) := by decide +kernel
theorem dk_Md_init_315 : decode mi_Md_init.2.1 315 = .ok (.iconst 0, 1) := by decide +kernel
theorem dk_Md_init_316 : decode mi_Md_init.2.1 316 = .ok (.iastore, 1) := by decide +kernel
theorem dk_Md_init_317 : decode mi_Md_init.2.1 317 = .ok (.dup, 1) := by decide +kernel
theorem dk_Md_init_318 : decode mi_Md_init.2.1 318 = .ok (.bipush 32, 2) := by decide +kernel
theorem dk_Md_init_320 : decode mi_Md_init.2.1 320 = .ok (.bipush 112, 2) := by decide +kernel
theorem dk_Md_init_322 : decode mi_Md_init.2.1 322 = .ok (.iastore, 1) := by decide +kernel
theorem dk_Md_init_323 : decode mi_Md_init.2.1 323 = .ok (.dup, 1) := by decide +kernel
theorem dk_Md_init_324 : decode mi_Md_init.2.1 324 = .ok (.bipush 33, 2) := by decide +kernel
theorem dk_Md_init_326 : decode mi_Md_init.2.1 326 = .ok (.bipush 117, 2) := by decide +kernel
theorem dk_Md_init_328 : decode mi_Md_init.2.1 328 = .ok (.iastore, 1) := by decide +kernel
theorem dk_Md_init_329 : decode mi_Md_init.2.1 329 = .ok (.dup, 1) := by decide +kernel
theorem dk_Md_init_330 : decode mi_Md_init.2.1 330 = .ok (.bipush 34, 2) := by decide +kernel
theorem dk_Md_init_332 : decode mi_Md_init.2.1 332 = .ok (.bipush 114, 2) := by decide +kernel
theorem dk_Md_init_334 : decode mi_Md_init.2.1 334 = .ok (.iastore, 1) := by decide +kernel
theorem dk_Md_init_335 : decode mi_Md_init.2.1 335 = .ok (.dup, 1) := by decide +kernel
theorem dk_Md_init_336 : decode mi_Md_init.2.1 336 = .ok (.bipush 35, 2) := by decide +kernel
theorem dk_Md_init_338 : decode mi_Md_init.2.1 338 = .ok (.bipush 115, 2) := by decide +kernel
theorem dk_Md_init_340 : decode mi_Md_init.2.1 340 = .ok (.iastore, 1) := by decide +kernel
theorem dk_Md_init_341 : decode mi_Md_init.2.1 341 = .ok (.dup, 1) := by decide +kernel
theorem dk_Md_init_342 : decode mi_Md_init.2.1 342 = .ok (.bipush 36, 2) := by decide +kernel
theorem dk_Md_init_344 : decode mi_Md_init.2.1 344 = .ok (.bipush 101, 2) := by decide +kernel
theorem dk_Md_init_346 : decode mi_Md_init.2.1 346 = .ok (.iastore, 1) := by decide +kernel
theorem dk_Md_init_347 : decode mi_Md_init.2.1 347 = .ok (.dup, 1) := by decide +kernel
theorem dk_Md_init_348 : decode mi_Md_init.2.1 348 = .ok (.bipush 37, 2) := by decide +kernel
theorem dk_Md_init_350 : decode mi_Md_init.2.1 350 = .ok (.bipush 32, 2) := by decide +kernel
theorem dk_Md_init_352 : decode mi_Md_init.2.1 352 = .ok (.iastore, 1) := by decide +kernel
theorem dk_Md_init_353 : decode mi_Md_init.2.1 353 = .ok (.dup, 1) := by decide +kernel
theorem dk_Md_init_354 : decode mi_Md_init.2.1 354 = .ok (.bipush 38, 2) := by decide +kernel
theorem dk_Md_init_356 : decode mi_Md_init.2.1 356 = .ok (.iconst 0, 1) := by decide +kernel
theorem dk_Md_init_357 : decode mi_Md_init.2.1 357 = .ok (.iastore, 1) := by decide +kernel
theorem dk_Md_init_358 : decode mi_Md_init.2.1 358 = .ok (.dup, 1) := by decide +kernel
theorem dk_Md_init_359 : decode mi_Md_init.2.1 359 = .ok (.bipush 39, 2) := by decide +kernel
theorem dk_Md_init_361 : decode mi_Md_init.2.1 361 = .ok (.bipush 103, 2) := by decide +kernel
theorem dk_Md_init_363 : decode mi_Md_init.2.1 363 = .ok (.iastore, 1) := by decide +kernel
theorem dk_Md_init_364 : decode mi_Md_init.2.1 364 = .ok (.dup, 1) := by decide +kernel
theorem dk_Md_init_365 : decode mi_Md_init.2.1 365 = .ok (.bipush 40, 2) := by decide +kernel
theorem dk_Md_init_367 : decode mi_Md_init.2.1 367 = .ok (.bipush 111, 2) := by decide +kernel
theorem dk_Md_init_369 : decode mi_Md_init.2.1 369 = .ok (.iastore, 1) := by decide +kernel
theorem dk_Md_init_370 : decode mi_Md_init.2.1 370 = .ok (.dup, 1) := by decide +kernel
theorem dk_Md_init_371 : decode mi_Md_init.2.1 371 = .ok (.bipush 41, 2) := by decide +kernel
theorem dk_Md_init_373 : decode mi_Md_init.2.1 373 = .ok (.bipush 101, 2) := by decide +kernel
theorem dk_Md_init_375 : decode mi_Md_init.2.1 375 = .ok (.iastore, 1) := by decide +kernel
theorem dk_Md_init_376 : decode mi_Md_init.2.1 376 = .ok (.dup, 1) := by decide +kernel
theorem dk_Md_init_377 : decode mi_Md_init.2.1 377 = .ok (.bipush 42, 2) := by decide +kernel
theorem dk_Md_init_379 : decode mi_Md_init.2.1 379 = .ok (.bipush 115, 2) := by decide +kernel
theorem dk_Md_init_381 : decode mi_Md_init.2.1 381 = .ok (.iastore, 1) := by decide +kernel
theorem dk_Md_init_382 : decode mi_Md_init.2.1 382 = .ok (.dup, 1) := by decide +kernel
theorem dk_Md_init_383 : decode mi_Md_init.2.1 383 = .ok (.bipush 43, 2) := by decide +kernel
theorem dk_Md_init_385 : decode mi_Md_init.2.1 385 = .ok (.bipush 32, 2) := by decide +kernel
theorem dk_Md_init_387 : decode mi_Md_init.2.1 387 = .ok (.iastore, 1) := by decide +kernel
theorem dk_Md_init_388 : decode mi_Md_init.2.1 388 = .ok (.dup, 1) := by decide +kernel
theorem dk_Md_init_389 : decode mi_Md_init.2.1 389 = .ok (.bipush 44, 2) := by decide +kernel
theorem dk_Md_init_391 : decode mi_Md_init.2.1 391 = .ok (.iconst 0, 1) := by decide +kernel
theorem dk_Md_init_392 : decode mi_Md_init.2.1 392 = .ok (.iastore, 1) := by decide +kernel
theorem dk_Md_init_393 : decode mi_Md_init.2.1 393 = .ok (.dup, 1) := by decide +kernel
theorem dk_Md_init_394 : decode mi_Md_init.2.1 394 = .ok (.bipush 45, 2) := by decide +kernel
theorem dk_Md_init_396 : decode mi_Md_init.2.1 396 = .ok (.bipush 100, 2) := by decide +kernel
theorem dk_Md_init_398 : decode mi_Md_init.2.1 398 = .ok (.iastore, 1) := by decide +kernel
theorem dk_Md_init_399 : decode mi_Md_init.2.1 399 = .ok (.dup, 1) := by decide +kernel
theorem dk_Md_init_400 : decode mi_Md_init.2.1 400 = .ok (.bipush 46, 2) := by decide +kernel
theorem dk_Md_init_402 : decode mi_Md_init.2.1 402 = .ok (.bipush 105, 2) := by decide +kernel
theorem dk_Md_init_404 : decode mi_Md_init.2.1 404 = .ok (.iastore, 1) := by decide +kernel
theorem dk_Md_init_405 : decode mi_Md_init.2.1 405 = .ok (.dup, 1) := by decide +kernel
theorem dk_Md_init_406 : decode mi_Md_init.2.1 406 = .ok (.bipush 47, 2) := by decide +kernel
theorem dk_Md_init_408 : decode mi_Md_init.2.1 408 = .ok (.bipush 101, 2) := by decide +kernel
theorem dk_Md_init_410 : decode mi_Md_init.2.1 410 = .ok (.iastore, 1) := by decide +kernel
theorem dk_Md_init_411 : decode mi_Md_init.2.1 411 = .ok (.dup, 1) := by decide +kernel
theorem dk_Md_init_412 : decode mi_Md_init.2.1 412 = .ok (.bipush 48, 2) := by decide +kernel
theorem dk_Md_init_414 : decode mi_Md_init.2.1 414 = .ok (.bipush 115, 2) := by decide +kernel
theorem dk_Md_init_416 : decode mi_Md_init.2.1 416 = .ok (.iastore, 1) := by decide +kernel
theorem dk_Md_init_417 : decode mi_Md_init.2.1 417 = .ok (.dup, 1) := by decide +kernel
theorem dk_Md_init_418 : decode mi_Md_init.2.1 418 = .ok (.bipush 49, 2) := by decide +kernel
theorem dk_Md_init_420 : decode mi_Md_init.2.1 420 = .ok (.bipush 32, 2) := by decide +kernel
theorem dk_Md_init_422 : decode mi_Md_init.2.1 422 = .ok (.iastore, 1) := by decide +kernel
theorem dk_Md_init_423 : decode mi_Md_init.2.1 423 = .ok (.dup, 1) := by decide +kernel
theorem dk_Md_init_424 : decode mi_Md_init.2.1 424 = .ok (.bipush 50, 2) := by decide +kernel
theorem dk_Md_init_426 : decode mi_Md_init.2.1 426 = .ok (.iconst 0, 1) := by decide +kernel
theorem dk_Md_init_427 : decode mi_Md_init.2.1 427 = .ok (.iastore, 1) := by decide +kernel
theorem dk_Md_init_428 : decode mi_Md_init.2.1 428 = .ok (.putfield 63, 3) := by decide +kernel
theorem dk_Md_init_431 : decode mi_Md_init.2.1 431 = .ok (.aload_n 0, 1) := by decide +kernel
theorem dk_Md_init_432 : decode mi_Md_init.2.1 432 = .ok (.bipush 8, 2) := by decide +kernel
theorem dk_Md_init_434 : decode mi_Md_init.2.1 434 = .ok (.newarray .int, 2) := by decide +kernel
theorem dk_Md_init_436 : decode mi_Md_init.2.1 436 = .ok (.dup, 1) := by decide +kernel
theorem dk_Md_init_437 : decode mi_Md_init.2.1 437 = .ok (.iconst 0, 1) := by decide +kernel
theorem dk_Md_init_438 : decode mi_Md_init.2.1 438 = .ok (.iconst 1, 1) := by decide +kernel
theorem dk_Md_init_439 : decode mi_Md_init.2.1 439 = .ok (.iastore, 1) := by decide +kernel
theorem dk_Md_init_440 : decode mi_Md_init.2.1 440 = .ok (.dup, 1) := by decide +kernel
theorem dk_Md_init_441 : decode mi_Md_init.2.1 441 = .ok (.iconst 1, 1) := by decide +kernel
theorem dk_Md_init_442 : decode mi_Md_init.2.1 442 = .ok (.iconst 3, 1) := by decide +kernel
theorem dk_Md_init_443 : decode mi_Md_init.2.1 443 = .ok (.iastore, 1) := by decide +kernel
theorem dk_Md_init_444 : decode mi_Md_init.2.1 444 = .ok (.dup, 1) := by decide +kernel
theorem dk_Md_init_445 : decode mi_Md_init.2.1 445 = .ok (.iconst 2, 1) := by decide +kernel
theorem dk_Md_init_446 : decode mi_Md_init.2.1 446 = .ok (.iconst 2, 1) := by decide +kernel
theorem dk_Md_init_447 : decode mi_Md_init.2.1 447 = .ok (.iastore, 1) := by decide +kernel
theorem dk_Md_init_448 : decode mi_Md_init.2.1 448 = .ok (.dup, 1) := by decide +kernel
theorem dk_Md_init_449 : decode mi_Md_init.2.1 449 = .ok (.iconst 3, 1) := by decide +kernel
theorem dk_Md_init_450 : decode mi_Md_init.2.1 450 = .ok (.iconst 2, 1) := by decide +kernel
theorem dk_Md_init_451 : decode mi_Md_init.2.1 451 = .ok (.iastore, 1) := by decide +kernel
theorem dk_Md_init_452 : decode mi_Md_init.2.1 452 = .ok (.dup, 1) := by decide +kernel
theorem dk_Md_init_453 : decode mi_Md_init.2.1 453 = .ok (.iconst 4, 1) := by decide +kernel
theorem dk_Md_init_454 : decode mi_Md_init.2.1 454 = .ok (.iconst 1, 1) := by decide +kernel
theorem dk_Md_init_455 : decode mi_Md_init.2.1 455 = .ok (.iastore, 1) := by decide +kernel
theorem dk_Md_init_456 : decode mi_Md_init.2.1 456 = .ok (.dup, 1) := by decide +kernel
theorem dk_Md_init_457 : decode mi_Md_init.2.1 457 = .ok (.iconst 5, 1) := by decide +kernel
theorem dk_Md_init_458 : decode mi_Md_init.2.1 458 = .ok (.iconst 1, 1) := by decide +kernel
theorem dk_Md_init_459 : decode mi_Md_init.2.1 459 = .ok (.iastore, 1) := by decide +kernel
theorem dk_Md_init_460 : decode mi_Md_init.2.1 460 = .ok (.dup, 1) := by decide +kernel
theorem dk_Md_init_461 : decode mi_Md_init.2.1 461 = .ok (.bipush 6, 2) := by decide +kernel
theorem dk_Md_init_463 : decode mi_Md_init.2.1 463 = .ok (.iconst 1, 1) := by decide +kernel
theorem dk_Md_init_464 : decode mi_Md_init.2.1 464 = .ok (.iastore, 1) := by decide +kernel
theorem dk_Md_init_465 : decode mi_Md_init.2.1 465 = .ok (.dup, 1) := by decide +kernel
theorem dk_Md_init_466 : decode mi_Md_init.2.1 466 = .ok (.bipush 7, 2) := by decide +kernel
theorem dk_Md_init_468 : decode mi_Md_init.2.1 468 = .ok (.iconst 1, 1) := by decide +kernel
theorem dk_Md_init_469 : decode mi_Md_init.2.1 469 = .ok (.iastore, 1) := by decide +kernel
theorem dk_Md_init_470 : decode mi_Md_init.2.1 470 = .ok (.putfield 66, 3) := by decide +kernel
theorem dk_Md_init_473 : decode mi_Md_init.2.1 473 = .ok (.aload_n 0, 1) := by decide +kernel
theorem dk_Md_init_474 : decode mi_Md_init.2.1 474 = .ok (.iconst 3, 1) := by decide +kernel
theorem dk_Md_init_475 : decode mi_Md_init.2.1 475 = .ok (.newarray .int, 2) := by decide +kernel
theorem dk_Md_init_477 : decode mi_Md_init.2.1 477 = .ok (.putfield 69, 3) := by decide +kernel
theorem dk_Md_init_480 : decode mi_Md_init.2.1 480 = .ok (.aload_n 0, 1) := by decide +kernel
theorem dk_Md_init_481 : decode mi_Md_init.2.1 481 = .ok (.bipush 60, 2) := by decide +kernel
theorem dk_Md_init_483 : decode mi_Md_init.2.1 483 = .ok (.newarray .int, 2) := by decide +kernel
theorem dk_Md_init_485 : decode mi_Md_init.2.1 485 = .ok (.putfield 72, 3) := by decide +kernel
theorem dk_Md_init_488 : decode mi_Md_init.2.1 488 = .ok (.aload_n 0, 1) := by decide +kernel
theorem dk_Md_init_489 : decode mi_Md_init.2.1 489 = .ok (.bipush 60, 2) := by decide +kernel
theorem dk_Md_init_491 : decode mi_Md_init.2.1 491 = .ok (.newarray .int, 2) := by decide +kernel
theorem dk_Md_init_493 : decode mi_Md_init.2.1 493 = .ok (.putfield 75, 3) := by decide +kernel
theorem dk_Md_init_496 : decode mi_Md_init.2.1 496 = .ok (.aload_n 0, 1) := by decide +kernel
theorem dk_Md_init_497 : decode mi_Md_init.2.1 497 = .ok (.bipush 60, 2) := by decide +kernel
theorem dk_Md_init_499 : decode mi_Md_init.2.1 499 = .ok (.newarray .int, 2) := by decide +kernel
theorem dk_Md_init_501 : decode mi_Md_init.2.1 501 = .ok (.putfield 78, 3) := by decide +kernel
theorem dk_Md_init_504 : decode mi_Md_init.2.1 504 = .ok (.aload_n 0, 1) := by decide +kernel
theorem dk_Md_init_505 : decode mi_Md_init.2.1 505 = .ok (.iconst 2, 1) := by decide +kernel
theorem dk_Md_init_506 : decode mi_Md_init.2.1 506 = .ok (.newarray .int, 2) := by decide +kernel
theorem dk_Md_init_508 : decode mi_Md_init.2.1 508 = .ok (.putfield 81, 3) := by decide +kernel
theorem dk_Md_init_511 : decode mi_Md_init.2.1 511 = .ok (.aload_n 0, 1) := by decide +kernel
theorem dk_Md_init_512 : decode mi_Md_init.2.1 512 = .ok (.iconst 2, 1) := by decide +kernel
theorem dk_Md_init_513 : decode mi_Md_init.2.1 513 = .ok (.newarray .int, 2) := by decide +kernel
theorem dk_Md_init_515 : decode mi_Md_init.2.1 515 = .ok (.putfield 84, 3) := by decide +kernel
theorem dk_Md_init_518 : decode mi_Md_init.2.1 518 = .ok (.aload_n 0, 1) := by decide +kernel
theorem dk_Md_init_519 : decode mi_Md_init.2.1 519 = .ok (.bipush 20, 2) := by decide +kernel
theorem dk_Md_init_521 : decode mi_Md_init.2.1 521 = .ok (.newarray .int, 2) := by decide +kernel
theorem dk_Md_init_523 : decode mi_Md_init.2.1 523 = .ok (.putfield 87, 3) := by decide +kernel
theorem dk_Md_init_526 : decode mi_Md_init.2.1 526 = .ok (.return_, 1) := by decide +kernel
theorem kw_Md_init : nm_CW mi_Md_init 0 := ⟨wd_1055, ⟨by decide +kernel, by decide +kernel, by decide +kernel⟩, wd_87, rfl⟩
theorem kb_0 : ∀ j, j < 5 → defaultValue (tyX0 j) = vp_V [.null, .null, .int 0, .int 0, .int 0] j := by decide +kernel
theorem kb_1 : ∀ j, j < 12 → defaultValue (tyX1 j) = vp_V [.null, .null, .null, .null, .null, .null, .int 0, .int 0, .int 0, .int 0, .int 0, .int 0] j := by decide +kernel
theorem kb_2 : ∀ j, j < 5 → defaultValue (tyX2 j) = vp_V [.null, .int 0, .int 0, .int 0, .int 0] j := by decide +kernel
theorem kb_3 : ∀ j, j < 4 → defaultValue (tyX3 j) = vp_V [.null, .null, .null, .int 0] j := by decide +kernel
theorem kb_4 : ∀ j, j < 5 → defaultValue (tyX4 j) = vp_V [.null, .int 0, .int 0, .int 0, .int 0] j := by decide +kernel
theorem kb_5 : ∀ j, j < 7 → defaultValue (tyX5 j) = vp_V [.null, .null, .int 0, .int 0, .int 0, .int 0, .int 0] j := by decide +kernel
theorem kb_6 : ∀ j, j < 11 → defaultValue (tyX6 j) = vp_V [.null, .null, .null, .null, .null, .null, .null, .null, .null, .int 0, .int 0] j := by decide +kernel
theorem kb_7 : ∀ j, j < 37 → defaultValue (tyX7 j) = vp_V [.int 0, .int 0, .int 0, .int 0, .int 0, .int 0, .int 0, .null, .null, .null, .null, .null, .null, .null, .null, .null, .null, .null, .null, .null, .null, .null, .null, .int 0, .int 0, .int 0, .int 0, .int 0, .null, .null, .null, .null, .null, .int 0, .null, .int 0, .int 0] j := by decide +kernel
theorem kb_o1 : Cond.instanceMethod Lib.objectInit ∈ nm_WS := nm_ws_of (i := 101) (by decide +kernel) (by decide +kernel)
theorem kb_o2 : Cond.code Lib.objectInit ⟨#[0xb1]⟩ 1 none ∈ nm_WS := nm_ws_of (i := 102) (by decide +kernel) (by decide +kernel)
theorem dk_La_law_0 : decode mi_La_law.2.1 0 = .ok (.new 7, 3) := by decide +kernel
theorem dk_La_law_3 : decode mi_La_law.2.1 3 = .ok (.dup, 1) := by decide +kernel
theorem dk_La_law_4 : decode mi_La_law.2.1 4 = .ok (.invokespecial 9, 3) := by decide +kernel
theorem dk_La_law_7 : decode mi_La_law.2.1 7 = .ok (.astore_n 1, 1) := by decide +kernel
theorem dk_La_law_8 : decode mi_La_law.2.1 8 = .ok (.new 10, 3) := by decide +kernel
theorem dk_La_law_11 : decode mi_La_law.2.1 11 = .ok (.dup, 1) := by decide +kernel
theorem dk_La_law_12 : decode mi_La_law.2.1 12 = .ok (.invokespecial 12, 3) := by decide +kernel
theorem dk_La_law_15 : decode mi_La_law.2.1 15 = .ok (.astore_n 2, 1) := by decide +kernel
