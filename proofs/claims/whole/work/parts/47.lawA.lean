/-! THE LAW: its words, its rows -/
theorem kL_0_239 : (Jvm.Cond.methodLink "CardMachineLaw" (13 : Nat) ({ cls := "CardMachine", name := "code", desc := "(II)I" } : Jvm.MethodName)) ∈ BW := bw_t1 239 (by decide +kernel) (by decide +kernel)
theorem kL_1_0 : (Jvm.Cond.instanceMethod ({ cls := "CardMachine", name := "code", desc := "(II)I" } : Jvm.MethodName)) ∈ BW := bw_t2 0 (by decide +kernel) (by decide +kernel)
theorem kL_1_1 : (Jvm.Cond.selects "CardMachine" ({ cls := "CardMachine", name := "code", desc := "(II)I" } : Jvm.MethodName) ({ cls := "CardMachine", name := "code", desc := "(II)I" } : Jvm.MethodName)) ∈ BW := bw_t2 1 (by decide +kernel) (by decide +kernel)
theorem kL_0_1 : (Jvm.Cond.initialized "CardMachine") ∈ BW := bw_t1 1 (by decide +kernel) (by decide +kernel)
theorem kL_1_2 : (Jvm.Cond.code ({ cls := "CardMachine", name := "code", desc := "(II)I" } : Jvm.MethodName) prog_1_method_2_code (3 : Nat) (Option.some Jvm.ClassFile.FieldType.int)) ∈ BW := bw_t2 2 (by decide +kernel) (by decide +kernel)
theorem kL_2_217 : (Jvm.Cond.methodLink "CardMachineLaw" (17 : Nat) ({ cls := "CardMachineModel", name := "code", desc := "(II)I" } : Jvm.MethodName)) ∈ BW := bw_t3 217 (by decide +kernel) (by decide +kernel)
theorem kL_2_218 : (Jvm.Cond.instanceMethod ({ cls := "CardMachineModel", name := "code", desc := "(II)I" } : Jvm.MethodName)) ∈ BW := bw_t3 218 (by decide +kernel) (by decide +kernel)
theorem kL_2_219 : (Jvm.Cond.selects "CardMachineModel" ({ cls := "CardMachineModel", name := "code", desc := "(II)I" } : Jvm.MethodName) ({ cls := "CardMachineModel", name := "code", desc := "(II)I" } : Jvm.MethodName)) ∈ BW := bw_t3 219 (by decide +kernel) (by decide +kernel)
theorem kL_0_9 : (Jvm.Cond.initialized "CardMachineModel") ∈ BW := bw_t1 9 (by decide +kernel) (by decide +kernel)
theorem kL_2_220 : (Jvm.Cond.code ({ cls := "CardMachineModel", name := "code", desc := "(II)I" } : Jvm.MethodName) prog_11_method_4_code (3 : Nat) (Option.some Jvm.ClassFile.FieldType.int)) ∈ BW := bw_t3 220 (by decide +kernel) (by decide +kernel)
theorem kL_1_10 : (Jvm.Cond.methodLink "CardMachineLaw" (20 : Nat) ({ cls := "CardMachine", name := "codes", desc := "(IJI)I" } : Jvm.MethodName)) ∈ BW := bw_t2 10 (by decide +kernel) (by decide +kernel)
theorem kL_1_7 : (Jvm.Cond.instanceMethod ({ cls := "CardMachine", name := "codes", desc := "(IJI)I" } : Jvm.MethodName)) ∈ BW := bw_t2 7 (by decide +kernel) (by decide +kernel)
theorem kL_1_8 : (Jvm.Cond.selects "CardMachine" ({ cls := "CardMachine", name := "codes", desc := "(IJI)I" } : Jvm.MethodName) ({ cls := "CardMachine", name := "codes", desc := "(IJI)I" } : Jvm.MethodName)) ∈ BW := bw_t2 8 (by decide +kernel) (by decide +kernel)
theorem kL_1_9 : (Jvm.Cond.code ({ cls := "CardMachine", name := "codes", desc := "(IJI)I" } : Jvm.MethodName) prog_1_method_3_code (6 : Nat) (Option.some Jvm.ClassFile.FieldType.int)) ∈ BW := bw_t2 9 (by decide +kernel) (by decide +kernel)
theorem kL_2_224 : (Jvm.Cond.methodLink "CardMachineLaw" (24 : Nat) ({ cls := "CardMachineModel", name := "codes", desc := "(IJI)I" } : Jvm.MethodName)) ∈ BW := bw_t3 224 (by decide +kernel) (by decide +kernel)
theorem kL_2_225 : (Jvm.Cond.instanceMethod ({ cls := "CardMachineModel", name := "codes", desc := "(IJI)I" } : Jvm.MethodName)) ∈ BW := bw_t3 225 (by decide +kernel) (by decide +kernel)
theorem kL_2_226 : (Jvm.Cond.selects "CardMachineModel" ({ cls := "CardMachineModel", name := "codes", desc := "(IJI)I" } : Jvm.MethodName) ({ cls := "CardMachineModel", name := "codes", desc := "(IJI)I" } : Jvm.MethodName)) ∈ BW := bw_t3 226 (by decide +kernel) (by decide +kernel)
theorem kL_2_227 : (Jvm.Cond.code ({ cls := "CardMachineModel", name := "codes", desc := "(IJI)I" } : Jvm.MethodName) prog_11_method_5_code (6 : Nat) (Option.some Jvm.ClassFile.FieldType.int)) ∈ BW := bw_t3 227 (by decide +kernel) (by decide +kernel)
theorem kL_1_11 : (Jvm.Cond.methodLink "CardMachineLaw" (25 : Nat) ({ cls := "CardMachine", name := "method", desc := "(IIIZ)I" } : Jvm.MethodName)) ∈ BW := bw_t2 11 (by decide +kernel) (by decide +kernel)
theorem kL_1_12 : (Jvm.Cond.instanceMethod ({ cls := "CardMachine", name := "method", desc := "(IIIZ)I" } : Jvm.MethodName)) ∈ BW := bw_t2 12 (by decide +kernel) (by decide +kernel)
theorem kL_1_13 : (Jvm.Cond.selects "CardMachine" ({ cls := "CardMachine", name := "method", desc := "(IIIZ)I" } : Jvm.MethodName) ({ cls := "CardMachine", name := "method", desc := "(IIIZ)I" } : Jvm.MethodName)) ∈ BW := bw_t2 13 (by decide +kernel) (by decide +kernel)
theorem kL_1_14 : (Jvm.Cond.code ({ cls := "CardMachine", name := "method", desc := "(IIIZ)I" } : Jvm.MethodName) prog_1_method_4_code (6 : Nat) (Option.some Jvm.ClassFile.FieldType.int)) ∈ BW := bw_t2 14 (by decide +kernel) (by decide +kernel)
theorem kL_2_229 : (Jvm.Cond.methodLink "CardMachineLaw" (29 : Nat) ({ cls := "CardMachineModel", name := "method", desc := "(IIIZ)I" } : Jvm.MethodName)) ∈ BW := bw_t3 229 (by decide +kernel) (by decide +kernel)
theorem kL_2_230 : (Jvm.Cond.instanceMethod ({ cls := "CardMachineModel", name := "method", desc := "(IIIZ)I" } : Jvm.MethodName)) ∈ BW := bw_t3 230 (by decide +kernel) (by decide +kernel)
theorem kL_2_231 : (Jvm.Cond.selects "CardMachineModel" ({ cls := "CardMachineModel", name := "method", desc := "(IIIZ)I" } : Jvm.MethodName) ({ cls := "CardMachineModel", name := "method", desc := "(IIIZ)I" } : Jvm.MethodName)) ∈ BW := bw_t3 231 (by decide +kernel) (by decide +kernel)
theorem kL_2_232 : (Jvm.Cond.code ({ cls := "CardMachineModel", name := "method", desc := "(IIIZ)I" } : Jvm.MethodName) prog_11_method_6_code (5 : Nat) (Option.some Jvm.ClassFile.FieldType.int)) ∈ BW := bw_t3 232 (by decide +kernel) (by decide +kernel)
theorem kL_1_18 : (Jvm.Cond.methodLink "CardMachineLaw" (30 : Nat) ({ cls := "CardMachine", name := "type", desc := "(I)I" } : Jvm.MethodName)) ∈ BW := bw_t2 18 (by decide +kernel) (by decide +kernel)
theorem kL_1_19 : (Jvm.Cond.instanceMethod ({ cls := "CardMachine", name := "type", desc := "(I)I" } : Jvm.MethodName)) ∈ BW := bw_t2 19 (by decide +kernel) (by decide +kernel)
theorem kL_1_20 : (Jvm.Cond.selects "CardMachine" ({ cls := "CardMachine", name := "type", desc := "(I)I" } : Jvm.MethodName) ({ cls := "CardMachine", name := "type", desc := "(I)I" } : Jvm.MethodName)) ∈ BW := bw_t2 20 (by decide +kernel) (by decide +kernel)
theorem kL_1_21 : (Jvm.Cond.code ({ cls := "CardMachine", name := "type", desc := "(I)I" } : Jvm.MethodName) prog_1_method_5_code (2 : Nat) (Option.some Jvm.ClassFile.FieldType.int)) ∈ BW := bw_t2 21 (by decide +kernel) (by decide +kernel)
theorem kL_2_233 : (Jvm.Cond.methodLink "CardMachineLaw" (34 : Nat) ({ cls := "CardMachineModel", name := "type", desc := "(I)I" } : Jvm.MethodName)) ∈ BW := bw_t3 233 (by decide +kernel) (by decide +kernel)
theorem kL_2_234 : (Jvm.Cond.instanceMethod ({ cls := "CardMachineModel", name := "type", desc := "(I)I" } : Jvm.MethodName)) ∈ BW := bw_t3 234 (by decide +kernel) (by decide +kernel)
theorem kL_2_235 : (Jvm.Cond.selects "CardMachineModel" ({ cls := "CardMachineModel", name := "type", desc := "(I)I" } : Jvm.MethodName) ({ cls := "CardMachineModel", name := "type", desc := "(I)I" } : Jvm.MethodName)) ∈ BW := bw_t3 235 (by decide +kernel) (by decide +kernel)
theorem kL_2_236 : (Jvm.Cond.code ({ cls := "CardMachineModel", name := "type", desc := "(I)I" } : Jvm.MethodName) prog_11_method_7_code (2 : Nat) (Option.some Jvm.ClassFile.FieldType.int)) ∈ BW := bw_t3 236 (by decide +kernel) (by decide +kernel)
theorem kL_1_30 : (Jvm.Cond.methodLink "CardMachineLaw" (35 : Nat) ({ cls := "CardMachine", name := "run", desc := "(II)I" } : Jvm.MethodName)) ∈ BW := bw_t2 30 (by decide +kernel) (by decide +kernel)
theorem kL_1_31 : (Jvm.Cond.instanceMethod ({ cls := "CardMachine", name := "run", desc := "(II)I" } : Jvm.MethodName)) ∈ BW := bw_t2 31 (by decide +kernel) (by decide +kernel)
theorem kL_1_32 : (Jvm.Cond.selects "CardMachine" ({ cls := "CardMachine", name := "run", desc := "(II)I" } : Jvm.MethodName) ({ cls := "CardMachine", name := "run", desc := "(II)I" } : Jvm.MethodName)) ∈ BW := bw_t2 32 (by decide +kernel) (by decide +kernel)
theorem kL_1_33 : (Jvm.Cond.code ({ cls := "CardMachine", name := "run", desc := "(II)I" } : Jvm.MethodName) prog_1_method_6_code (3 : Nat) (Option.some Jvm.ClassFile.FieldType.int)) ∈ BW := bw_t2 33 (by decide +kernel) (by decide +kernel)
theorem kL_2_237 : (Jvm.Cond.methodLink "CardMachineLaw" (38 : Nat) ({ cls := "CardMachineModel", name := "run", desc := "(II)I" } : Jvm.MethodName)) ∈ BW := bw_t3 237 (by decide +kernel) (by decide +kernel)
theorem kL_2_238 : (Jvm.Cond.instanceMethod ({ cls := "CardMachineModel", name := "run", desc := "(II)I" } : Jvm.MethodName)) ∈ BW := bw_t3 238 (by decide +kernel) (by decide +kernel)
theorem kL_2_239 : (Jvm.Cond.selects "CardMachineModel" ({ cls := "CardMachineModel", name := "run", desc := "(II)I" } : Jvm.MethodName) ({ cls := "CardMachineModel", name := "run", desc := "(II)I" } : Jvm.MethodName)) ∈ BW := bw_t3 239 (by decide +kernel) (by decide +kernel)
theorem kL_3_0 : (Jvm.Cond.code ({ cls := "CardMachineModel", name := "run", desc := "(II)I" } : Jvm.MethodName) prog_11_method_41_code (3 : Nat) (Option.some Jvm.ClassFile.FieldType.int)) ∈ BW := bw_t4 0 (by decide +kernel) (by decide +kernel)
theorem kL_2_49 : (Jvm.Cond.methodLink "CardMachineLaw" (39 : Nat) ({ cls := "CardMachine", name := "thrown0", desc := "()I" } : Jvm.MethodName)) ∈ BW := bw_t3 49 (by decide +kernel) (by decide +kernel)
theorem kL_2_50 : (Jvm.Cond.instanceMethod ({ cls := "CardMachine", name := "thrown0", desc := "()I" } : Jvm.MethodName)) ∈ BW := bw_t3 50 (by decide +kernel) (by decide +kernel)
theorem kL_2_51 : (Jvm.Cond.selects "CardMachine" ({ cls := "CardMachine", name := "thrown0", desc := "()I" } : Jvm.MethodName) ({ cls := "CardMachine", name := "thrown0", desc := "()I" } : Jvm.MethodName)) ∈ BW := bw_t3 51 (by decide +kernel) (by decide +kernel)
theorem kL_2_52 : (Jvm.Cond.code ({ cls := "CardMachine", name := "thrown0", desc := "()I" } : Jvm.MethodName) prog_1_method_7_code (1 : Nat) (Option.some Jvm.ClassFile.FieldType.int)) ∈ BW := bw_t3 52 (by decide +kernel) (by decide +kernel)
theorem kL_3_131 : (Jvm.Cond.methodLink "CardMachineLaw" (43 : Nat) ({ cls := "CardMachineModel", name := "thrown0", desc := "()I" } : Jvm.MethodName)) ∈ BW := bw_t4 131 (by decide +kernel) (by decide +kernel)
theorem kL_3_132 : (Jvm.Cond.instanceMethod ({ cls := "CardMachineModel", name := "thrown0", desc := "()I" } : Jvm.MethodName)) ∈ BW := bw_t4 132 (by decide +kernel) (by decide +kernel)
theorem kL_3_133 : (Jvm.Cond.selects "CardMachineModel" ({ cls := "CardMachineModel", name := "thrown0", desc := "()I" } : Jvm.MethodName) ({ cls := "CardMachineModel", name := "thrown0", desc := "()I" } : Jvm.MethodName)) ∈ BW := bw_t4 133 (by decide +kernel) (by decide +kernel)
theorem kL_3_134 : (Jvm.Cond.code ({ cls := "CardMachineModel", name := "thrown0", desc := "()I" } : Jvm.MethodName) prog_11_method_42_code (1 : Nat) (Option.some Jvm.ClassFile.FieldType.int)) ∈ BW := bw_t4 134 (by decide +kernel) (by decide +kernel)
theorem kL_2_53 : (Jvm.Cond.methodLink "CardMachineLaw" (44 : Nat) ({ cls := "CardMachine", name := "value", desc := "()I" } : Jvm.MethodName)) ∈ BW := bw_t3 53 (by decide +kernel) (by decide +kernel)
theorem kL_2_54 : (Jvm.Cond.instanceMethod ({ cls := "CardMachine", name := "value", desc := "()I" } : Jvm.MethodName)) ∈ BW := bw_t3 54 (by decide +kernel) (by decide +kernel)
theorem kL_2_55 : (Jvm.Cond.selects "CardMachine" ({ cls := "CardMachine", name := "value", desc := "()I" } : Jvm.MethodName) ({ cls := "CardMachine", name := "value", desc := "()I" } : Jvm.MethodName)) ∈ BW := bw_t3 55 (by decide +kernel) (by decide +kernel)
theorem kL_2_56 : (Jvm.Cond.code ({ cls := "CardMachine", name := "value", desc := "()I" } : Jvm.MethodName) prog_1_method_8_code (1 : Nat) (Option.some Jvm.ClassFile.FieldType.int)) ∈ BW := bw_t3 56 (by decide +kernel) (by decide +kernel)
theorem kL_3_135 : (Jvm.Cond.methodLink "CardMachineLaw" (47 : Nat) ({ cls := "CardMachineModel", name := "value", desc := "()I" } : Jvm.MethodName)) ∈ BW := bw_t4 135 (by decide +kernel) (by decide +kernel)
theorem kL_3_136 : (Jvm.Cond.instanceMethod ({ cls := "CardMachineModel", name := "value", desc := "()I" } : Jvm.MethodName)) ∈ BW := bw_t4 136 (by decide +kernel) (by decide +kernel)
theorem kL_3_137 : (Jvm.Cond.selects "CardMachineModel" ({ cls := "CardMachineModel", name := "value", desc := "()I" } : Jvm.MethodName) ({ cls := "CardMachineModel", name := "value", desc := "()I" } : Jvm.MethodName)) ∈ BW := bw_t4 137 (by decide +kernel) (by decide +kernel)
theorem kL_3_138 : (Jvm.Cond.code ({ cls := "CardMachineModel", name := "value", desc := "()I" } : Jvm.MethodName) prog_11_method_43_code (1 : Nat) (Option.some Jvm.ClassFile.FieldType.int)) ∈ BW := bw_t4 138 (by decide +kernel) (by decide +kernel)
theorem kL_2_57 : (Jvm.Cond.methodLink "CardMachineLaw" (48 : Nat) ({ cls := "CardMachine", name := "reply", desc := "(I)I" } : Jvm.MethodName)) ∈ BW := bw_t3 57 (by decide +kernel) (by decide +kernel)
theorem kL_2_58 : (Jvm.Cond.instanceMethod ({ cls := "CardMachine", name := "reply", desc := "(I)I" } : Jvm.MethodName)) ∈ BW := bw_t3 58 (by decide +kernel) (by decide +kernel)
theorem kL_2_59 : (Jvm.Cond.selects "CardMachine" ({ cls := "CardMachine", name := "reply", desc := "(I)I" } : Jvm.MethodName) ({ cls := "CardMachine", name := "reply", desc := "(I)I" } : Jvm.MethodName)) ∈ BW := bw_t3 59 (by decide +kernel) (by decide +kernel)
theorem kL_2_60 : (Jvm.Cond.code ({ cls := "CardMachine", name := "reply", desc := "(I)I" } : Jvm.MethodName) prog_1_method_9_code (2 : Nat) (Option.some Jvm.ClassFile.FieldType.int)) ∈ BW := bw_t3 60 (by decide +kernel) (by decide +kernel)
theorem kL_3_139 : (Jvm.Cond.methodLink "CardMachineLaw" (51 : Nat) ({ cls := "CardMachineModel", name := "reply", desc := "(I)I" } : Jvm.MethodName)) ∈ BW := bw_t4 139 (by decide +kernel) (by decide +kernel)
theorem kL_3_140 : (Jvm.Cond.instanceMethod ({ cls := "CardMachineModel", name := "reply", desc := "(I)I" } : Jvm.MethodName)) ∈ BW := bw_t4 140 (by decide +kernel) (by decide +kernel)
theorem kL_3_141 : (Jvm.Cond.selects "CardMachineModel" ({ cls := "CardMachineModel", name := "reply", desc := "(I)I" } : Jvm.MethodName) ({ cls := "CardMachineModel", name := "reply", desc := "(I)I" } : Jvm.MethodName)) ∈ BW := bw_t4 141 (by decide +kernel) (by decide +kernel)
theorem kL_3_142 : (Jvm.Cond.code ({ cls := "CardMachineModel", name := "reply", desc := "(I)I" } : Jvm.MethodName) prog_11_method_44_code (2 : Nat) (Option.some Jvm.ClassFile.FieldType.int)) ∈ BW := bw_t4 142 (by decide +kernel) (by decide +kernel)
theorem kL_2_62 : (Jvm.Cond.methodLink "CardMachineLaw" (52 : Nat) ({ cls := "CardMachine", name := "used", desc := "()I" } : Jvm.MethodName)) ∈ BW := bw_t3 62 (by decide +kernel) (by decide +kernel)
theorem kL_2_63 : (Jvm.Cond.instanceMethod ({ cls := "CardMachine", name := "used", desc := "()I" } : Jvm.MethodName)) ∈ BW := bw_t3 63 (by decide +kernel) (by decide +kernel)
theorem kL_2_64 : (Jvm.Cond.selects "CardMachine" ({ cls := "CardMachine", name := "used", desc := "()I" } : Jvm.MethodName) ({ cls := "CardMachine", name := "used", desc := "()I" } : Jvm.MethodName)) ∈ BW := bw_t3 64 (by decide +kernel) (by decide +kernel)
theorem kL_2_65 : (Jvm.Cond.code ({ cls := "CardMachine", name := "used", desc := "()I" } : Jvm.MethodName) prog_1_method_10_code (1 : Nat) (Option.some Jvm.ClassFile.FieldType.int)) ∈ BW := bw_t3 65 (by decide +kernel) (by decide +kernel)
theorem kL_3_143 : (Jvm.Cond.methodLink "CardMachineLaw" (55 : Nat) ({ cls := "CardMachineModel", name := "used", desc := "()I" } : Jvm.MethodName)) ∈ BW := bw_t4 143 (by decide +kernel) (by decide +kernel)
theorem kL_3_144 : (Jvm.Cond.instanceMethod ({ cls := "CardMachineModel", name := "used", desc := "()I" } : Jvm.MethodName)) ∈ BW := bw_t4 144 (by decide +kernel) (by decide +kernel)
theorem kL_3_145 : (Jvm.Cond.selects "CardMachineModel" ({ cls := "CardMachineModel", name := "used", desc := "()I" } : Jvm.MethodName) ({ cls := "CardMachineModel", name := "used", desc := "()I" } : Jvm.MethodName)) ∈ BW := bw_t4 145 (by decide +kernel) (by decide +kernel)
theorem kL_3_146 : (Jvm.Cond.code ({ cls := "CardMachineModel", name := "used", desc := "()I" } : Jvm.MethodName) prog_11_method_45_code (1 : Nat) (Option.some Jvm.ClassFile.FieldType.int)) ∈ BW := bw_t4 146 (by decide +kernel) (by decide +kernel)
theorem kL_2_66 : (Jvm.Cond.methodLink "CardMachineLaw" (56 : Nat) ({ cls := "CardMachine", name := "tear", desc := "(I)I" } : Jvm.MethodName)) ∈ BW := bw_t3 66 (by decide +kernel) (by decide +kernel)
theorem kL_2_67 : (Jvm.Cond.instanceMethod ({ cls := "CardMachine", name := "tear", desc := "(I)I" } : Jvm.MethodName)) ∈ BW := bw_t3 67 (by decide +kernel) (by decide +kernel)
theorem kL_2_68 : (Jvm.Cond.selects "CardMachine" ({ cls := "CardMachine", name := "tear", desc := "(I)I" } : Jvm.MethodName) ({ cls := "CardMachine", name := "tear", desc := "(I)I" } : Jvm.MethodName)) ∈ BW := bw_t3 68 (by decide +kernel) (by decide +kernel)
theorem kL_2_69 : (Jvm.Cond.code ({ cls := "CardMachine", name := "tear", desc := "(I)I" } : Jvm.MethodName) prog_1_method_11_code (2 : Nat) (Option.some Jvm.ClassFile.FieldType.int)) ∈ BW := bw_t3 69 (by decide +kernel) (by decide +kernel)
theorem kL_3_147 : (Jvm.Cond.methodLink "CardMachineLaw" (59 : Nat) ({ cls := "CardMachineModel", name := "tear", desc := "(I)I" } : Jvm.MethodName)) ∈ BW := bw_t4 147 (by decide +kernel) (by decide +kernel)
theorem kL_3_148 : (Jvm.Cond.instanceMethod ({ cls := "CardMachineModel", name := "tear", desc := "(I)I" } : Jvm.MethodName)) ∈ BW := bw_t4 148 (by decide +kernel) (by decide +kernel)
theorem kL_3_149 : (Jvm.Cond.selects "CardMachineModel" ({ cls := "CardMachineModel", name := "tear", desc := "(I)I" } : Jvm.MethodName) ({ cls := "CardMachineModel", name := "tear", desc := "(I)I" } : Jvm.MethodName)) ∈ BW := bw_t4 149 (by decide +kernel) (by decide +kernel)
theorem kL_3_150 : (Jvm.Cond.code ({ cls := "CardMachineModel", name := "tear", desc := "(I)I" } : Jvm.MethodName) prog_11_method_46_code (2 : Nat) (Option.some Jvm.ClassFile.FieldType.int)) ∈ BW := bw_t4 150 (by decide +kernel) (by decide +kernel)
theorem kL_2_74 : (Jvm.Cond.methodLink "CardMachineLaw" (60 : Nat) ({ cls := "CardMachine", name := "reset", desc := "()I" } : Jvm.MethodName)) ∈ BW := bw_t3 74 (by decide +kernel) (by decide +kernel)
theorem kL_2_75 : (Jvm.Cond.instanceMethod ({ cls := "CardMachine", name := "reset", desc := "()I" } : Jvm.MethodName)) ∈ BW := bw_t3 75 (by decide +kernel) (by decide +kernel)
theorem kL_2_76 : (Jvm.Cond.selects "CardMachine" ({ cls := "CardMachine", name := "reset", desc := "()I" } : Jvm.MethodName) ({ cls := "CardMachine", name := "reset", desc := "()I" } : Jvm.MethodName)) ∈ BW := bw_t3 76 (by decide +kernel) (by decide +kernel)
theorem kL_2_77 : (Jvm.Cond.code ({ cls := "CardMachine", name := "reset", desc := "()I" } : Jvm.MethodName) prog_1_method_12_code (2 : Nat) (Option.some Jvm.ClassFile.FieldType.int)) ∈ BW := bw_t3 77 (by decide +kernel) (by decide +kernel)
theorem kL_3_151 : (Jvm.Cond.methodLink "CardMachineLaw" (63 : Nat) ({ cls := "CardMachineModel", name := "reset", desc := "()I" } : Jvm.MethodName)) ∈ BW := bw_t4 151 (by decide +kernel) (by decide +kernel)
theorem kL_3_152 : (Jvm.Cond.instanceMethod ({ cls := "CardMachineModel", name := "reset", desc := "()I" } : Jvm.MethodName)) ∈ BW := bw_t4 152 (by decide +kernel) (by decide +kernel)
theorem kL_3_153 : (Jvm.Cond.selects "CardMachineModel" ({ cls := "CardMachineModel", name := "reset", desc := "()I" } : Jvm.MethodName) ({ cls := "CardMachineModel", name := "reset", desc := "()I" } : Jvm.MethodName)) ∈ BW := bw_t4 153 (by decide +kernel) (by decide +kernel)
theorem kL_3_154 : (Jvm.Cond.code ({ cls := "CardMachineModel", name := "reset", desc := "()I" } : Jvm.MethodName) prog_11_method_47_code (1 : Nat) (Option.some Jvm.ClassFile.FieldType.int)) ∈ BW := bw_t4 154 (by decide +kernel) (by decide +kernel)
theorem kL_2_79 : (Jvm.Cond.methodLink "CardMachineLaw" (64 : Nat) ({ cls := "CardMachine", name := "objects", desc := "()I" } : Jvm.MethodName)) ∈ BW := bw_t3 79 (by decide +kernel) (by decide +kernel)
theorem kL_2_80 : (Jvm.Cond.instanceMethod ({ cls := "CardMachine", name := "objects", desc := "()I" } : Jvm.MethodName)) ∈ BW := bw_t3 80 (by decide +kernel) (by decide +kernel)
theorem kL_2_81 : (Jvm.Cond.selects "CardMachine" ({ cls := "CardMachine", name := "objects", desc := "()I" } : Jvm.MethodName) ({ cls := "CardMachine", name := "objects", desc := "()I" } : Jvm.MethodName)) ∈ BW := bw_t3 81 (by decide +kernel) (by decide +kernel)
theorem kL_2_82 : (Jvm.Cond.code ({ cls := "CardMachine", name := "objects", desc := "()I" } : Jvm.MethodName) prog_1_method_13_code (2 : Nat) (Option.some Jvm.ClassFile.FieldType.int)) ∈ BW := bw_t3 82 (by decide +kernel) (by decide +kernel)
theorem kL_3_155 : (Jvm.Cond.methodLink "CardMachineLaw" (67 : Nat) ({ cls := "CardMachineModel", name := "objects", desc := "()I" } : Jvm.MethodName)) ∈ BW := bw_t4 155 (by decide +kernel) (by decide +kernel)
theorem kL_3_156 : (Jvm.Cond.instanceMethod ({ cls := "CardMachineModel", name := "objects", desc := "()I" } : Jvm.MethodName)) ∈ BW := bw_t4 156 (by decide +kernel) (by decide +kernel)
theorem kL_3_157 : (Jvm.Cond.selects "CardMachineModel" ({ cls := "CardMachineModel", name := "objects", desc := "()I" } : Jvm.MethodName) ({ cls := "CardMachineModel", name := "objects", desc := "()I" } : Jvm.MethodName)) ∈ BW := bw_t4 157 (by decide +kernel) (by decide +kernel)
theorem kL_3_158 : (Jvm.Cond.code ({ cls := "CardMachineModel", name := "objects", desc := "()I" } : Jvm.MethodName) prog_11_method_48_code (1 : Nat) (Option.some Jvm.ClassFile.FieldType.int)) ∈ BW := bw_t4 158 (by decide +kernel) (by decide +kernel)
theorem kL_2_83 : (Jvm.Cond.methodLink "CardMachineLaw" (68 : Nat) ({ cls := "CardMachine", name := "told", desc := "(II)I" } : Jvm.MethodName)) ∈ BW := bw_t3 83 (by decide +kernel) (by decide +kernel)
theorem kL_2_84 : (Jvm.Cond.instanceMethod ({ cls := "CardMachine", name := "told", desc := "(II)I" } : Jvm.MethodName)) ∈ BW := bw_t3 84 (by decide +kernel) (by decide +kernel)
theorem kL_2_85 : (Jvm.Cond.selects "CardMachine" ({ cls := "CardMachine", name := "told", desc := "(II)I" } : Jvm.MethodName) ({ cls := "CardMachine", name := "told", desc := "(II)I" } : Jvm.MethodName)) ∈ BW := bw_t3 85 (by decide +kernel) (by decide +kernel)
theorem kL_2_86 : (Jvm.Cond.code ({ cls := "CardMachine", name := "told", desc := "(II)I" } : Jvm.MethodName) prog_1_method_14_code (4 : Nat) (Option.some Jvm.ClassFile.FieldType.int)) ∈ BW := bw_t3 86 (by decide +kernel) (by decide +kernel)
theorem kL_3_159 : (Jvm.Cond.methodLink "CardMachineLaw" (71 : Nat) ({ cls := "CardMachineModel", name := "told", desc := "(II)I" } : Jvm.MethodName)) ∈ BW := bw_t4 159 (by decide +kernel) (by decide +kernel)
theorem kL_3_160 : (Jvm.Cond.instanceMethod ({ cls := "CardMachineModel", name := "told", desc := "(II)I" } : Jvm.MethodName)) ∈ BW := bw_t4 160 (by decide +kernel) (by decide +kernel)
theorem kL_3_161 : (Jvm.Cond.selects "CardMachineModel" ({ cls := "CardMachineModel", name := "told", desc := "(II)I" } : Jvm.MethodName) ({ cls := "CardMachineModel", name := "told", desc := "(II)I" } : Jvm.MethodName)) ∈ BW := bw_t4 161 (by decide +kernel) (by decide +kernel)
theorem kL_3_162 : (Jvm.Cond.code ({ cls := "CardMachineModel", name := "told", desc := "(II)I" } : Jvm.MethodName) prog_11_method_49_code (3 : Nat) (Option.some Jvm.ClassFile.FieldType.int)) ∈ BW := bw_t4 162 (by decide +kernel) (by decide +kernel)
theorem kL_2_88 : (Jvm.Cond.methodLink "CardMachineLaw" (72 : Nat) ({ cls := "CardMachine", name := "cell", desc := "(II)I" } : Jvm.MethodName)) ∈ BW := bw_t3 88 (by decide +kernel) (by decide +kernel)
theorem kL_2_89 : (Jvm.Cond.instanceMethod ({ cls := "CardMachine", name := "cell", desc := "(II)I" } : Jvm.MethodName)) ∈ BW := bw_t3 89 (by decide +kernel) (by decide +kernel)
theorem kL_2_90 : (Jvm.Cond.selects "CardMachine" ({ cls := "CardMachine", name := "cell", desc := "(II)I" } : Jvm.MethodName) ({ cls := "CardMachine", name := "cell", desc := "(II)I" } : Jvm.MethodName)) ∈ BW := bw_t3 90 (by decide +kernel) (by decide +kernel)
theorem kL_2_91 : (Jvm.Cond.code ({ cls := "CardMachine", name := "cell", desc := "(II)I" } : Jvm.MethodName) prog_1_method_15_code (4 : Nat) (Option.some Jvm.ClassFile.FieldType.int)) ∈ BW := bw_t3 91 (by decide +kernel) (by decide +kernel)
theorem kL_3_163 : (Jvm.Cond.methodLink "CardMachineLaw" (75 : Nat) ({ cls := "CardMachineModel", name := "cell", desc := "(II)I" } : Jvm.MethodName)) ∈ BW := bw_t4 163 (by decide +kernel) (by decide +kernel)
theorem kL_3_164 : (Jvm.Cond.instanceMethod ({ cls := "CardMachineModel", name := "cell", desc := "(II)I" } : Jvm.MethodName)) ∈ BW := bw_t4 164 (by decide +kernel) (by decide +kernel)
theorem kL_3_165 : (Jvm.Cond.selects "CardMachineModel" ({ cls := "CardMachineModel", name := "cell", desc := "(II)I" } : Jvm.MethodName) ({ cls := "CardMachineModel", name := "cell", desc := "(II)I" } : Jvm.MethodName)) ∈ BW := bw_t4 165 (by decide +kernel) (by decide +kernel)
theorem kL_3_166 : (Jvm.Cond.code ({ cls := "CardMachineModel", name := "cell", desc := "(II)I" } : Jvm.MethodName) prog_11_method_50_code (3 : Nat) (Option.some Jvm.ClassFile.FieldType.int)) ∈ BW := bw_t4 166 (by decide +kernel) (by decide +kernel)
theorem kL_3_167 : (Jvm.Cond.constantLong "CardMachineLaw" (18 : Nat) (4294967295 : Int64)) ∈ BW := bw_t4 167 (by decide +kernel) (by decide +kernel)
theorem kL_0_14 : (Jvm.Cond.classLink "CardMachineLaw" (7 : Nat) "CardMachine") ∈ BW := bw_t1 14 (by decide +kernel) (by decide +kernel)
theorem kL_2_94 : (Jvm.Cond.classLink "CardMachineLaw" (10 : Nat) "CardMachineModel") ∈ BW := bw_t3 94 (by decide +kernel) (by decide +kernel)
theorem kL_0_16 : (Jvm.Cond.methodLink "CardMachineLaw" (9 : Nat) ({ cls := "CardMachine", name := "<init>", desc := "()V" } : Jvm.MethodName)) ∈ BW := bw_t1 16 (by decide +kernel) (by decide +kernel)
theorem kL_2_96 : (Jvm.Cond.methodLink "CardMachineLaw" (12 : Nat) ({ cls := "CardMachineModel", name := "<init>", desc := "()V" } : Jvm.MethodName)) ∈ BW := bw_t3 96 (by decide +kernel) (by decide +kernel)
theorem kL_0_17 : (Jvm.Cond.instanceMethod ({ cls := "CardMachine", name := "<init>", desc := "()V" } : Jvm.MethodName)) ∈ BW := bw_t1 17 (by decide +kernel) (by decide +kernel)
theorem kL_2_97 : (Jvm.Cond.instanceMethod ({ cls := "CardMachineModel", name := "<init>", desc := "()V" } : Jvm.MethodName)) ∈ BW := bw_t3 97 (by decide +kernel) (by decide +kernel)
theorem kL_0_18 : (Jvm.Cond.code ({ cls := "CardMachine", name := "<init>", desc := "()V" } : Jvm.MethodName) prog_1_method_1_code (1 : Nat) (Option.none : Option Jvm.ClassFile.FieldType)) ∈ BW := bw_t1 18 (by decide +kernel) (by decide +kernel)
theorem kL_2_98 : (Jvm.Cond.code ({ cls := "CardMachineModel", name := "<init>", desc := "()V" } : Jvm.MethodName) prog_11_method_1_code (2 : Nat) (Option.none : Option Jvm.ClassFile.FieldType)) ∈ BW := bw_t3 98 (by decide +kernel) (by decide +kernel)
theorem wvL_13 : zWV RL 13 RX8 yX8_code cX8_code 3 (some .int) 2 := ⟨⟨kL_0_239, kL_1_0, kL_1_1, kL_0_1, kL_1_2⟩, rfl, by decide, by decide, by decide +kernel⟩
theorem wvL_17 : zWV RL 17 RX9 yX9_code cX9_code 3 (some .int) 2 := ⟨⟨kL_2_217, kL_2_218, kL_2_219, kL_0_9, kL_2_220⟩, rfl, by decide, by decide, by decide +kernel⟩
theorem wvL_20 : zWV RL 20 RX8 yX8_codes cX8_codes 6 (some .int) 3 := ⟨⟨kL_1_10, kL_1_7, kL_1_8, kL_0_1, kL_1_9⟩, rfl, by decide, by decide, by decide +kernel⟩
theorem wvL_24 : zWV RL 24 RX9 yX9_codes cX9_codes 6 (some .int) 3 := ⟨⟨kL_2_224, kL_2_225, kL_2_226, kL_0_9, kL_2_227⟩, rfl, by decide, by decide, by decide +kernel⟩
theorem wvL_25 : zWV RL 25 RX8 yX8_method cX8_method 6 (some .int) 4 := ⟨⟨kL_1_11, kL_1_12, kL_1_13, kL_0_1, kL_1_14⟩, rfl, by decide, by decide, by decide +kernel⟩
theorem wvL_29 : zWV RL 29 RX9 yX9_method cX9_method 5 (some .int) 4 := ⟨⟨kL_2_229, kL_2_230, kL_2_231, kL_0_9, kL_2_232⟩, rfl, by decide, by decide, by decide +kernel⟩
theorem wvL_30 : zWV RL 30 RX8 yX8_type cX8_type 2 (some .int) 1 := ⟨⟨kL_1_18, kL_1_19, kL_1_20, kL_0_1, kL_1_21⟩, rfl, by decide, by decide, by decide +kernel⟩
theorem wvL_34 : zWV RL 34 RX9 yX9_type cX9_type 2 (some .int) 1 := ⟨⟨kL_2_233, kL_2_234, kL_2_235, kL_0_9, kL_2_236⟩, rfl, by decide, by decide, by decide +kernel⟩
theorem wvL_35 : zWV RL 35 RX8 yX8_run cX8_run 3 (some .int) 2 := ⟨⟨kL_1_30, kL_1_31, kL_1_32, kL_0_1, kL_1_33⟩, rfl, by decide, by decide, by decide +kernel⟩
theorem wvL_38 : zWV RL 38 RX9 yX9_run cX9_run 3 (some .int) 2 := ⟨⟨kL_2_237, kL_2_238, kL_2_239, kL_0_9, kL_3_0⟩, rfl, by decide, by decide, by decide +kernel⟩
theorem wvL_39 : zWV RL 39 RX8 yX8_thrown0 cX8_thrown0 1 (some .int) 0 := ⟨⟨kL_2_49, kL_2_50, kL_2_51, kL_0_1, kL_2_52⟩, rfl, by decide, by decide, by decide +kernel⟩
theorem wvL_43 : zWV RL 43 RX9 yX9_thrown0 cX9_thrown0 1 (some .int) 0 := ⟨⟨kL_3_131, kL_3_132, kL_3_133, kL_0_9, kL_3_134⟩, rfl, by decide, by decide, by decide +kernel⟩
theorem wvL_44 : zWV RL 44 RX8 yX8_value cX8_value 1 (some .int) 0 := ⟨⟨kL_2_53, kL_2_54, kL_2_55, kL_0_1, kL_2_56⟩, rfl, by decide, by decide, by decide +kernel⟩
theorem wvL_47 : zWV RL 47 RX9 yX9_value cX9_value 1 (some .int) 0 := ⟨⟨kL_3_135, kL_3_136, kL_3_137, kL_0_9, kL_3_138⟩, rfl, by decide, by decide, by decide +kernel⟩
theorem wvL_48 : zWV RL 48 RX8 yX8_reply cX8_reply 2 (some .int) 1 := ⟨⟨kL_2_57, kL_2_58, kL_2_59, kL_0_1, kL_2_60⟩, rfl, by decide, by decide, by decide +kernel⟩
theorem wvL_51 : zWV RL 51 RX9 yX9_reply cX9_reply 2 (some .int) 1 := ⟨⟨kL_3_139, kL_3_140, kL_3_141, kL_0_9, kL_3_142⟩, rfl, by decide, by decide, by decide +kernel⟩
theorem wvL_52 : zWV RL 52 RX8 yX8_used cX8_used 1 (some .int) 0 := ⟨⟨kL_2_62, kL_2_63, kL_2_64, kL_0_1, kL_2_65⟩, rfl, by decide, by decide, by decide +kernel⟩
theorem wvL_55 : zWV RL 55 RX9 yX9_used cX9_used 1 (some .int) 0 := ⟨⟨kL_3_143, kL_3_144, kL_3_145, kL_0_9, kL_3_146⟩, rfl, by decide, by decide, by decide +kernel⟩
theorem wvL_56 : zWV RL 56 RX8 yX8_tear cX8_tear 2 (some .int) 1 := ⟨⟨kL_2_66, kL_2_67, kL_2_68, kL_0_1, kL_2_69⟩, rfl, by decide, by decide, by decide +kernel⟩
theorem wvL_59 : zWV RL 59 RX9 yX9_tear cX9_tear 2 (some .int) 1 := ⟨⟨kL_3_147, kL_3_148, kL_3_149, kL_0_9, kL_3_150⟩, rfl, by decide, by decide, by decide +kernel⟩
theorem wvL_60 : zWV RL 60 RX8 yX8_reset cX8_reset 2 (some .int) 0 := ⟨⟨kL_2_74, kL_2_75, kL_2_76, kL_0_1, kL_2_77⟩, rfl, by decide, by decide, by decide +kernel⟩
theorem wvL_63 : zWV RL 63 RX9 yX9_reset cX9_reset 1 (some .int) 0 := ⟨⟨kL_3_151, kL_3_152, kL_3_153, kL_0_9, kL_3_154⟩, rfl, by decide, by decide, by decide +kernel⟩
theorem wvL_64 : zWV RL 64 RX8 yX8_objects cX8_objects 2 (some .int) 0 := ⟨⟨kL_2_79, kL_2_80, kL_2_81, kL_0_1, kL_2_82⟩, rfl, by decide, by decide, by decide +kernel⟩
theorem wvL_67 : zWV RL 67 RX9 yX9_objects cX9_objects 1 (some .int) 0 := ⟨⟨kL_3_155, kL_3_156, kL_3_157, kL_0_9, kL_3_158⟩, rfl, by decide, by decide, by decide +kernel⟩
theorem wvL_68 : zWV RL 68 RX8 yX8_told cX8_told 4 (some .int) 2 := ⟨⟨kL_2_83, kL_2_84, kL_2_85, kL_0_1, kL_2_86⟩, rfl, by decide, by decide, by decide +kernel⟩
theorem wvL_71 : zWV RL 71 RX9 yX9_told cX9_told 3 (some .int) 2 := ⟨⟨kL_3_159, kL_3_160, kL_3_161, kL_0_9, kL_3_162⟩, rfl, by decide, by decide, by decide +kernel⟩
theorem wvL_72 : zWV RL 72 RX8 yX8_cell cX8_cell 4 (some .int) 2 := ⟨⟨kL_2_88, kL_2_89, kL_2_90, kL_0_1, kL_2_91⟩, rfl, by decide, by decide, by decide +kernel⟩
theorem wvL_75 : zWV RL 75 RX9 yX9_cell cX9_cell 3 (some .int) 2 := ⟨⟨kL_3_163, kL_3_164, kL_3_165, kL_0_9, kL_3_166⟩, rfl, by decide, by decide, by decide +kernel⟩
def AW (N : Nat) (q : Nat → Nat) : Nat → Prop := fun a => ∃ k, k < N ∧ a = q k
theorem AW_D {N : Nat} {q : Nat → Nat} {A : Nat → Prop} (h : zQD A N q) : zQD (AW N q) N q := ⟨h.1, fun i hi => ⟨i, hi, rfl⟩⟩
theorem AW_A {N : Nat} {q : Nat → Nat} {A : Nat → Prop} (h : zQD A N q) : ∀ a, AW N q a → A a := fun a ⟨k, hk, e⟩ => by rw [e]; exact h.2 k hk
theorem zP_lt {D : va_G} {N : Nat} {q : Nat → Nat} {ent : zEnt} {M : St} {H : Heap} (h : zP D N q ent M H) {k : Nat} (hk : k < N) : q k < H.size := (va_Pk h hk).lt
theorem zP_keep {D : va_G} {N : Nat} {q : Nat → Nat} {ent : zEnt} {M : St} {H H1 : Heap} (h : zP D N q ent M H) (hk : ∀ k, k < N → H1[q k]? = H[q k]?) : zP D N q ent M H1 := va_P.kept h (fun k x hx => by
  obtain ⟨h1, e⟩ := zwl_inv hx
  rw [e]
  exact hk k h1)
def zLC (p : Program) (s : State) (m : MethodId) (b L : Nat) (xs : Nat → Int32) (meth : Method) (c : Code) (G : zG) (A : Nat → Prop) (qC qM : Nat → Nat) : Prop :=
  zFx p s m #[.ref b] meth c code RL 4 ret G A ∧ va_X b L xs s s.heap ∧ b < s.heap.size ∧ ¬ A b ∧ L ≤ 320 ∧ (zQD A 58 qC ∧ zQD A 21 qM) ∧ ∀ k, k < 58 → ∀ j, j < 21 → qC k ≠ qM j
section LR
variable {p : Program} {l : Launch} {e : Env} {s : State} {m : MethodId} {below : List Frame} {meth : Method} {c : Code} {H : Heap} {locs : List Loc} {cells slots : Nat} {Q : State → Prop} {b L : Nat} {xs : Nat → Int32} {G : zG} {A : Nat → Prop} {qC qM : Nat → Nat} {pc : Nat} {ls : Array Slot} {rest : List Value} {i : Nat} {C C1 M M1 : St}
theorem lawC {y : MethodName} {cc' : ByteArray} {nL' n idx fr lo : Nat} {as st : List Value} {r : Int32} (K : zLC p s m b L xs meth c G A qC qM) (wv : zWV RL idx RX8 y cc' nL' (some .int) n) (hC : (zP G.1 58 qC (eC G qC) C H)) (hM : (zP G.1 21 qM (eM G qM) M H)) (hS : va_S A s.heap H locs) (hk : zKI l y cc' nL' (some .int) fr lo G (AW 58 qC) (zP G.1 58 qC (eC G qC) C) (.ref (qC 0) :: as) r (zP G.1 58 qC (eC G qC) C1)) (hst : as.reverse ++ .ref (qC 0) :: rest = st) (hls : ls.size = 4) (hn : as.length = n) (hR : fr + 1 ≤ 11 ∧ 8 + (nL' + 11) + lo ≤ 410) (hcs : cells ≤ 600000 ∧ slots ≤ 7302250) (hcat : (rest.map fun v => v.category).sum ≤ 8) (hdg : decode code pc = .ok (.invokevirtual idx, 3))
    (kk : ∀ (H1 : Heap) (locs1 : List Loc), (zP G.1 58 qC (eC G qC) C1 H1) → (zP G.1 21 qM (eM G qM) M H1) → va_S A s.heap H1 locs1 → W p l e room_1 s m #[.ref b] below meth c H1 locs1 cells slots Q (F0 m (pc + 3) ls (.int r :: rest))) : W p l e room_1 s m #[.ref b] below meth c H locs cells slots Q (F0 m pc ls st) :=
  y_callI (A1 := AW 58 qC) wv K.1 hS (AW_A K.2.2.2.2.2.1.1) hk hC (x_recv (C := RX8) (T := TX8) (ci := 6) (k := 0) K.1 hC rfl (by decide) (eC_0 G qC _)) hst hls hn hR hcs hcat hdg (fun H1 locs1 h1 h2 h3 _ => kk H1 locs1 h1 (zP_keep hM (fun k hk => h3 _ (zP_lt hM hk) (fun ⟨j, hj, e⟩ => K.2.2.2.2.2.2 j hj k hk e.symm))) h2)
theorem lawM {y : MethodName} {cc' : ByteArray} {nL' n idx fr lo : Nat} {as st : List Value} {r : Int32} (K : zLC p s m b L xs meth c G A qC qM) (wv : zWV RL idx RX9 y cc' nL' (some .int) n) (hC : (zP G.1 58 qC (eC G qC) C H)) (hM : (zP G.1 21 qM (eM G qM) M H)) (hS : va_S A s.heap H locs) (hk : zKI l y cc' nL' (some .int) fr lo G (AW 21 qM) (zP G.1 21 qM (eM G qM) M) (.ref (qM 0) :: as) r (zP G.1 21 qM (eM G qM) M1)) (hst : as.reverse ++ .ref (qM 0) :: rest = st) (hls : ls.size = 4) (hn : as.length = n) (hR : fr + 1 ≤ 11 ∧ 8 + (nL' + 11) + lo ≤ 410) (hcs : cells ≤ 600000 ∧ slots ≤ 7302250) (hcat : (rest.map fun v => v.category).sum ≤ 8) (hdg : decode code pc = .ok (.invokevirtual idx, 3))
    (kk : ∀ (H1 : Heap) (locs1 : List Loc), (zP G.1 58 qC (eC G qC) C H1) → (zP G.1 21 qM (eM G qM) M1 H1) → va_S A s.heap H1 locs1 → W p l e room_1 s m #[.ref b] below meth c H1 locs1 cells slots Q (F0 m (pc + 3) ls (.int r :: rest))) : W p l e room_1 s m #[.ref b] below meth c H locs cells slots Q (F0 m pc ls st) :=
  y_callI (A1 := AW 21 qM) wv K.1 hS (AW_A K.2.2.2.2.2.1.2) hk hM (x_recv (C := RX9) (T := TX9) (ci := 7) (k := 0) K.1 hM rfl (by decide) (eM_0 G qM _)) hst hls hn hR hcs hcat hdg (fun H1 locs1 h1 h2 h3 _ => kk H1 locs1 (zP_keep hC (fun k hk => h3 _ (zP_lt hC hk) (fun ⟨j, hj, e⟩ => K.2.2.2.2.2.2 k hk j hj e))) h1 h2)
theorem lawRd {j : Nat} {n : Int} (hj : j < 5) (hn : Int32.ofInt n = nI j) (K : zLC p s m b L xs meth c G A qC qM) (hS : va_S A s.heap H locs) (hl : lv_has ls 4 [(3, .int (nI i)), (2, .ref (qM 0)), (1, .ref (qC 0)), (0, .ref b)]) (hi : i + 5 ≤ L) (d0 : decode code pc = .ok (.aload_n 0, 1)) (d1 : decode code (pc + 1) = .ok (.iload_n 3, 1)) (d2 : decode code (pc + 2) = .ok (.iconst n, 1)) (d3 : decode code (pc + 3) = .ok (.iadd, 1)) (d4 : decode code (pc + 4) = .ok (.iaload, 1))
    (kk : W p l e room_1 s m #[.ref b] below meth c H locs cells slots Q (F0 m (pc + 5) ls (.int (xs (i + j)) :: rest))) : W p l e room_1 s m #[.ref b] below meth c H locs cells slots Q (F0 m pc ls rest) := by
  have hL := K.2.2.2.2.1
  refine lv_aload_n K.1.1 K.1.2.1 d0 rfl (lv_at hl 3 rfl) ?_
  refine lv_iload_n K.1.1 K.1.2.1 d1 rfl (lv_at hl 0 rfl) ?_
  refine lv_iconst (v := nI j) K.1.1 K.1.2.1 d2 hn ?_
  refine lv_iadd K.1.1 K.1.2.1 d3 ?_
  rw [nI_add]
  refine va_sld K.1.1 K.1.2.1 K.2.1 K.2.2.1 K.2.2.2.1 hS (vp_in_nI (show i + j < L by omega) (by omega)) d4 ?_
  rw [nI_clamp (show i + j < 2 ^ 31 by omega)]
  exact kk
theorem lsub5 : ∀ L ∈ List.range 321, (Int32.ofNat L - 5).toInt = (L : Int) - 5 := by decide +kernel
theorem law_head (K : zLC p s m b L xs meth c G A qC qM) (hS : va_S A s.heap H locs) (hl : lv_has ls 4 [(3, .int (nI i)), (2, .ref (qM 0)), (1, .ref (qC 0)), (0, .ref b)]) (hi : i ≤ 320) (kt : ¬ i + 5 ≤ L → W p l e room_1 s m #[.ref b] below meth c H locs cells slots Q (F0 m 518 ls [])) (kf : i + 5 ≤ L → W p l e room_1 s m #[.ref b] below meth c H locs cells slots Q (F0 m 32 ls [.int (xs i &&& 15)])) : W p l e room_1 s m #[.ref b] below meth c H locs cells slots Q (F0 m 18 ls []) := by
  have hL := K.2.2.2.2.1
  refine lv_iload_n K.1.1 K.1.2.1 dL_law_18 rfl (lv_at hl 0 rfl) ?_
  refine lv_aload_n K.1.1 K.1.2.1 dL_law_19 rfl (lv_at hl 3 rfl) ?_
  refine va_slen K.1.1 K.1.2.1 K.2.1 K.2.2.1 K.2.2.2.1 hS dL_law_20 ?_
  refine lv_iconst (v := 5) K.1.1 K.1.2.1 dL_law_21 rfl ?_
  refine lv_isub K.1.1 K.1.2.1 dL_law_22 ?_
  have e5 := lsub5 L (List.mem_range.mpr (by omega))
  refine lv_icmp_gt (tgt := 518) K.1.1 K.1.2.1 dL_law_23 (by decide) (fun h => kt ?_) (fun h => ?_)
  · rw [Int32.lt_iff_toInt_lt, e5, nI_toInt (by omega)] at h
    omega
  · rw [Int32.lt_iff_toInt_lt, e5, nI_toInt (by omega)] at h
    have h5 : i + 5 ≤ L := by omega
    refine lv_aload_n K.1.1 K.1.2.1 dL_law_26 rfl (lv_at hl 3 rfl) ?_
    refine lv_iload_n K.1.1 K.1.2.1 dL_law_27 rfl (lv_at hl 0 rfl) ?_
    refine va_sld K.1.1 K.1.2.1 K.2.1 K.2.2.1 K.2.2.2.1 hS (vp_in_nI (show i < L by omega) (by omega)) dL_law_28 ?_
    rw [nI_clamp (show i < 2 ^ 31 by omega)]
    refine lv_bipush (v := 15) K.1.1 K.1.2.1 dL_law_29 rfl ?_
    refine lv_iand K.1.1 K.1.2.1 dL_law_31 ?_
    exact kf h5
end LR
