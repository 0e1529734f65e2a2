theorem w_in_Lw : (Cond.initialized "GradientShardsLaw") ∈ GW := gw_i 44 (by decide +kernel) rfl
theorem w_in_Gs : (Cond.initialized "GradientShards") ∈ GW := gw_i 45 (by decide +kernel) rfl
theorem w_in_Sh : (Cond.initialized "GradientShards$Shard") ∈ GW := gw_i 46 (by decide +kernel) rfl
theorem w_in_Lk : (Cond.initialized "GradientShards$Link") ∈ GW := gw_i 47 (by decide +kernel) rfl
theorem w_in_Nt : (Cond.initialized "GradientShards$Net") ∈ GW := gw_i 48 (by decide +kernel) rfl
theorem w_in_Md : (Cond.initialized "GradientShardsModel") ∈ GW := gw_i 49 (by decide +kernel) rfl
theorem w_in_Ma : (Cond.initialized "java/lang/Math") ∈ GW := gw_i 50 (by decide +kernel) rfl
theorem w_in_Sy : (Cond.initialized "java/lang/System") ∈ GW := gw_i 51 (by decide +kernel) rfl
theorem w_cl_Lw_7 : (Cond.classLink "GradientShardsLaw" (7 : Nat) "GradientShards") ∈ GW := gw_i 52 (by decide +kernel) rfl
theorem w_is_Gs : (Cond.instantiable "GradientShards" (9 : Nat)) ∈ GW := gw_i 53 (by decide +kernel) rfl
theorem w_ml_Lw_15 : (Cond.methodLink "GradientShardsLaw" (15 : Nat) ({ cls := "GradientShards", name := "<init>", desc := "(III)V" } : Jvm.MethodName)) ∈ GW := gw_i 54 (by decide +kernel) rfl
theorem w_im_Gs_init : (Cond.instanceMethod ({ cls := "GradientShards", name := "<init>", desc := "(III)V" } : Jvm.MethodName)) ∈ GW := gw_i 55 (by decide +kernel) rfl
theorem w_cd_Gs_init : (Cond.code ({ cls := "GradientShards", name := "<init>", desc := "(III)V" } : Jvm.MethodName) prog_1_method_1_code (7 : Nat) (Option.none : Option Jvm.ClassFile.FieldType)) ∈ GW := gw_i 56 (by decide +kernel) rfl
theorem w_ml_Gs_1 : (Cond.methodLink "GradientShards" (1 : Nat) ({ cls := "java/lang/Object", name := "<init>", desc := "()V" } : Jvm.MethodName)) ∈ GW := gw_i 57 (by decide +kernel) rfl
theorem w_im_Ob_init : (Cond.instanceMethod ({ cls := "java/lang/Object", name := "<init>", desc := "()V" } : Jvm.MethodName)) ∈ GW := gw_i 58 (by decide +kernel) rfl
theorem w_cd_Ob_init : (Cond.code ({ cls := "java/lang/Object", name := "<init>", desc := "()V" } : Jvm.MethodName) object_method_1_code (1 : Nat) (Option.none : Option Jvm.ClassFile.FieldType)) ∈ GW := gw_i 59 (by decide +kernel) rfl
theorem w_cl_Gs_17 : (Cond.classLink "GradientShards" (17 : Nat) "GradientShards$Shard") ∈ GW := gw_i 60 (by decide +kernel) rfl
theorem w_ao_Sh : (Cond.arrayOver (Jvm.ClassFile.FieldType.object "GradientShards$Shard")) ∈ lw_tbl := List.mem_of_getElem? (i := 61) (by decide +kernel)
theorem w_is_Sh : (Cond.instantiable "GradientShards$Shard" (9 : Nat)) ∈ GW := gw_i 62 (by decide +kernel) rfl
theorem w_im_Sh_init : (Cond.instanceMethod ({ cls := "GradientShards$Shard", name := "<init>", desc := "(III)V" } : Jvm.MethodName)) ∈ GW := gw_i 64 (by decide +kernel) rfl
theorem w_cd_Sh_init : (Cond.code ({ cls := "GradientShards$Shard", name := "<init>", desc := "(III)V" } : Jvm.MethodName) prog_4_method_1_code (5 : Nat) (Option.none : Option Jvm.ClassFile.FieldType)) ∈ GW := gw_i 65 (by decide +kernel) rfl
theorem w_ml_Sh_3 : (Cond.methodLink "GradientShards$Shard" (3 : Nat) ({ cls := "java/lang/Object", name := "<init>", desc := "()V" } : Jvm.MethodName)) ∈ GW := gw_i 66 (by decide +kernel) rfl
theorem w_cl_Sh_32 : (Cond.classLink "GradientShards$Shard" (32 : Nat) "GradientShards$Link") ∈ GW := gw_i 67 (by decide +kernel) rfl
theorem w_ao_Lk : (Cond.arrayOver (Jvm.ClassFile.FieldType.object "GradientShards$Link")) ∈ lw_tbl := List.mem_of_getElem? (i := 68) (by decide +kernel)
theorem w_is_Lk : (Cond.instantiable "GradientShards$Link" (12 : Nat)) ∈ GW := gw_i 69 (by decide +kernel) rfl
theorem w_im_Lk_init : (Cond.instanceMethod ({ cls := "GradientShards$Link", name := "<init>", desc := "(II)V" } : Jvm.MethodName)) ∈ GW := gw_i 71 (by decide +kernel) rfl
theorem w_cd_Lk_init : (Cond.code ({ cls := "GradientShards$Link", name := "<init>", desc := "(II)V" } : Jvm.MethodName) prog_2_method_1_code (3 : Nat) (Option.none : Option Jvm.ClassFile.FieldType)) ∈ GW := gw_i 72 (by decide +kernel) rfl
theorem w_ml_Lk_3 : (Cond.methodLink "GradientShards$Link" (3 : Nat) ({ cls := "java/lang/Object", name := "<init>", desc := "()V" } : Jvm.MethodName)) ∈ GW := gw_i 73 (by decide +kernel) rfl
theorem w_fl_Lk_25 : (Cond.fieldLink "GradientShards$Link" (25 : Nat) "GradientShards$Link" "worker" "I") ∈ GW := gw_i 74 (by decide +kernel) rfl
theorem w_fl_Lk_29 : (Cond.fieldLink "GradientShards$Link" (29 : Nat) "GradientShards$Link" "shard" "I") ∈ GW := gw_i 76 (by decide +kernel) rfl
theorem w_fl_Lk_11 : (Cond.fieldLink "GradientShards$Link" (11 : Nat) "GradientShards$Link" "places" "[I") ∈ GW := gw_i 78 (by decide +kernel) rfl
theorem w_fl_Lk_15 : (Cond.fieldLink "GradientShards$Link" (15 : Nat) "GradientShards$Link" "pushed" "[I") ∈ GW := gw_i 79 (by decide +kernel) rfl
theorem w_fl_Lk_18 : (Cond.fieldLink "GradientShards$Link" (18 : Nat) "GradientShards$Link" "sendings" "[I") ∈ GW := gw_i 80 (by decide +kernel) rfl
theorem w_fl_Lk_21 : (Cond.fieldLink "GradientShards$Link" (21 : Nat) "GradientShards$Link" "taken" "[Z") ∈ GW := gw_i 81 (by decide +kernel) rfl
theorem w_fl_Lk_32 : (Cond.fieldLink "GradientShards$Link" (32 : Nat) "GradientShards$Link" "made" "I") ∈ GW := gw_i 82 (by decide +kernel) rfl
theorem w_fl_Lk_35 : (Cond.fieldLink "GradientShards$Link" (35 : Nat) "GradientShards$Link" "start" "I") ∈ GW := gw_i 83 (by decide +kernel) rfl
theorem w_fl_Lk_38 : (Cond.fieldLink "GradientShards$Link" (38 : Nat) "GradientShards$Link" "confirmed" "I") ∈ GW := gw_i 84 (by decide +kernel) rfl
theorem w_fl_Lk_45 : (Cond.fieldLink "GradientShards$Link" (45 : Nat) "GradientShards$Link" "turn" "I") ∈ GW := gw_i 86 (by decide +kernel) rfl
theorem w_fl_Lk_48 : (Cond.fieldLink "GradientShards$Link" (48 : Nat) "GradientShards$Link" "endsHandled" "I") ∈ GW := gw_i 89 (by decide +kernel) rfl
theorem w_fl_Lk_51 : (Cond.fieldLink "GradientShards$Link" (51 : Nat) "GradientShards$Link" "boundary" "I") ∈ GW := gw_i 90 (by decide +kernel) rfl
theorem w_ac_int : (Cond.arrayClass Jvm.ClassFile.FieldType.int) ∈ GW := gw_i 116 (by decide +kernel) rfl
theorem w_ac_boolean : (Cond.arrayClass Jvm.ClassFile.FieldType.boolean) ∈ GW := gw_i 117 (by decide +kernel) rfl
theorem w_fl_Sh_28 : (Cond.fieldLink "GradientShards$Shard" (28 : Nat) "GradientShards$Shard" "rule" "I") ∈ GW := gw_i 118 (by decide +kernel) rfl
theorem w_fl_Sh_34 : (Cond.fieldLink "GradientShards$Shard" (34 : Nat) "GradientShards$Shard" "links" "[LGradientShards$Link;") ∈ GW := gw_i 119 (by decide +kernel) rfl
theorem w_fl_Sh_9 : (Cond.fieldLink "GradientShards$Shard" (9 : Nat) "GradientShards$Shard" "values" "[I") ∈ GW := gw_i 121 (by decide +kernel) rfl
theorem w_fl_Sh_15 : (Cond.fieldLink "GradientShards$Shard" (15 : Nat) "GradientShards$Shard" "memories" "[I") ∈ GW := gw_i 123 (by decide +kernel) rfl
theorem w_fl_Sh_18 : (Cond.fieldLink "GradientShards$Shard" (18 : Nat) "GradientShards$Shard" "savedValues" "[I") ∈ GW := gw_i 124 (by decide +kernel) rfl
theorem w_fl_Sh_21 : (Cond.fieldLink "GradientShards$Shard" (21 : Nat) "GradientShards$Shard" "savedMemories" "[I") ∈ GW := gw_i 125 (by decide +kernel) rfl
theorem w_fl_Sh_57 : (Cond.fieldLink "GradientShards$Shard" (57 : Nat) "GradientShards$Shard" "clocksDone" "I") ∈ GW := gw_i 126 (by decide +kernel) rfl
theorem w_fl_Sh_85 : (Cond.fieldLink "GradientShards$Shard" (85 : Nat) "GradientShards$Shard" "savedClocksDone" "I") ∈ GW := gw_i 128 (by decide +kernel) rfl
theorem w_fl_Sh_24 : (Cond.fieldLink "GradientShards$Shard" (24 : Nat) "GradientShards$Shard" "up" "Z") ∈ GW := gw_i 129 (by decide +kernel) rfl
theorem w_cl_Gs_26 : (Cond.classLink "GradientShards" (26 : Nat) "GradientShards$Net") ∈ GW := gw_i 150 (by decide +kernel) rfl
theorem w_is_Nt : (Cond.instantiable "GradientShards$Net" (4 : Nat)) ∈ GW := gw_i 151 (by decide +kernel) rfl
theorem w_im_Nt_init : (Cond.instanceMethod ({ cls := "GradientShards$Net", name := "<init>", desc := "()V" } : Jvm.MethodName)) ∈ GW := gw_i 153 (by decide +kernel) rfl
theorem w_cd_Nt_init : (Cond.code ({ cls := "GradientShards$Net", name := "<init>", desc := "()V" } : Jvm.MethodName) prog_3_method_1_code (1 : Nat) (Option.none : Option Jvm.ClassFile.FieldType)) ∈ GW := gw_i 154 (by decide +kernel) rfl
theorem w_ml_Nt_3 : (Cond.methodLink "GradientShards$Net" (3 : Nat) ({ cls := "java/lang/Object", name := "<init>", desc := "()V" } : Jvm.MethodName)) ∈ GW := gw_i 155 (by decide +kernel) rfl
theorem w_fl_Nt_9 : (Cond.fieldLink "GradientShards$Net" (9 : Nat) "GradientShards$Net" "codes" "[I") ∈ GW := gw_i 156 (by decide +kernel) rfl
theorem w_fl_Nt_24 : (Cond.fieldLink "GradientShards$Net" (24 : Nat) "GradientShards$Net" "size" "I") ∈ GW := gw_i 158 (by decide +kernel) rfl
theorem w_fl_Nt_27 : (Cond.fieldLink "GradientShards$Net" (27 : Nat) "GradientShards$Net" "sent" "I") ∈ GW := gw_i 160 (by decide +kernel) rfl
theorem w_fl_Nt_34 : (Cond.fieldLink "GradientShards$Net" (34 : Nat) "GradientShards$Net" "lost" "I") ∈ GW := gw_i 162 (by decide +kernel) rfl
theorem w_fl_Gs_7 : (Cond.fieldLink "GradientShards" (7 : Nat) "GradientShards" "slack" "I") ∈ GW := gw_i 173 (by decide +kernel) rfl
theorem w_fl_Gs_13 : (Cond.fieldLink "GradientShards" (13 : Nat) "GradientShards" "clocks" "[I") ∈ GW := gw_i 174 (by decide +kernel) rfl
theorem w_fl_Gs_19 : (Cond.fieldLink "GradientShards" (19 : Nat) "GradientShards" "shards" "[LGradientShards$Shard;") ∈ GW := gw_i 175 (by decide +kernel) rfl
theorem w_fl_Gs_29 : (Cond.fieldLink "GradientShards" (29 : Nat) "GradientShards" "net" "LGradientShards$Net;") ∈ GW := gw_i 176 (by decide +kernel) rfl
theorem w_fl_Gs_115 : (Cond.fieldLink "GradientShards" (115 : Nat) "GradientShards" "time" "I") ∈ GW := gw_i 177 (by decide +kernel) rfl
theorem w_fl_Gs_128 : (Cond.fieldLink "GradientShards" (128 : Nat) "GradientShards" "sentAgain" "I") ∈ GW := gw_i 178 (by decide +kernel) rfl
theorem w_fl_Gs_173 : (Cond.fieldLink "GradientShards" (173 : Nat) "GradientShards" "doubles" "I") ∈ GW := gw_i 179 (by decide +kernel) rfl
theorem w_fl_Gs_155 : (Cond.fieldLink "GradientShards" (155 : Nat) "GradientShards" "checkpoints" "I") ∈ GW := gw_i 180 (by decide +kernel) rfl
theorem w_fl_Gs_152 : (Cond.fieldLink "GradientShards" (152 : Nat) "GradientShards" "recoveries" "I") ∈ GW := gw_i 181 (by decide +kernel) rfl
theorem w_ml_Lw_21 : (Cond.methodLink "GradientShardsLaw" (21 : Nat) ({ cls := "GradientShards", name := "add", desc := "(III)Z" } : Jvm.MethodName)) ∈ GW := gw_i 201 (by decide +kernel) rfl
theorem w_im_Gs_add : (Cond.instanceMethod ({ cls := "GradientShards", name := "add", desc := "(III)Z" } : Jvm.MethodName)) ∈ GW := gw_i 202 (by decide +kernel) rfl
theorem w_se_Gs_add : (Cond.selects "GradientShards" ({ cls := "GradientShards", name := "add", desc := "(III)Z" } : Jvm.MethodName) ({ cls := "GradientShards", name := "add", desc := "(III)Z" } : Jvm.MethodName)) ∈ GW := gw_i 203 (by decide +kernel) rfl
theorem w_cd_Gs_add : (Cond.code ({ cls := "GradientShards", name := "add", desc := "(III)Z" } : Jvm.MethodName) prog_1_method_2_code (5 : Nat) (Option.some Jvm.ClassFile.FieldType.boolean)) ∈ GW := gw_i 204 (by decide +kernel) rfl
theorem w_ml_Gs_33 : (Cond.methodLink "GradientShards" (33 : Nat) ({ cls := "GradientShards", name := "isWorker", desc := "(I)Z" } : Jvm.MethodName)) ∈ GW := gw_i 205 (by decide +kernel) rfl
theorem w_im_Gs_isWorker : (Cond.instanceMethod ({ cls := "GradientShards", name := "isWorker", desc := "(I)Z" } : Jvm.MethodName)) ∈ GW := gw_i 207 (by decide +kernel) rfl
theorem w_cd_Gs_isWorker : (Cond.code ({ cls := "GradientShards", name := "isWorker", desc := "(I)Z" } : Jvm.MethodName) prog_1_method_22_code (2 : Nat) (Option.some Jvm.ClassFile.FieldType.boolean)) ∈ GW := gw_i 208 (by decide +kernel) rfl
theorem w_ml_Gs_37 : (Cond.methodLink "GradientShards" (37 : Nat) ({ cls := "GradientShards", name := "isKey", desc := "(I)Z" } : Jvm.MethodName)) ∈ GW := gw_i 209 (by decide +kernel) rfl
theorem w_st_Gs_isKey : (Cond.static ({ cls := "GradientShards", name := "isKey", desc := "(I)Z" } : Jvm.MethodName)) ∈ GW := gw_i 210 (by decide +kernel) rfl
theorem w_cd_Gs_isKey : (Cond.code ({ cls := "GradientShards", name := "isKey", desc := "(I)Z" } : Jvm.MethodName) prog_1_method_23_code (1 : Nat) (Option.some Jvm.ClassFile.FieldType.boolean)) ∈ GW := gw_i 211 (by decide +kernel) rfl
theorem w_ml_Gs_40 : (Cond.methodLink "GradientShards" (40 : Nat) ({ cls := "GradientShards", name := "isHeld", desc := "(I)Z" } : Jvm.MethodName)) ∈ GW := gw_i 212 (by decide +kernel) rfl
theorem w_im_Gs_isHeld : (Cond.instanceMethod ({ cls := "GradientShards", name := "isHeld", desc := "(I)Z" } : Jvm.MethodName)) ∈ GW := gw_i 214 (by decide +kernel) rfl
theorem w_cd_Gs_isHeld : (Cond.code ({ cls := "GradientShards", name := "isHeld", desc := "(I)Z" } : Jvm.MethodName) prog_1_method_26_code (7 : Nat) (Option.some Jvm.ClassFile.FieldType.boolean)) ∈ GW := gw_i 215 (by decide +kernel) rfl
theorem w_ml_Gs_176 : (Cond.methodLink "GradientShards" (176 : Nat) ({ cls := "java/lang/Math", name := "min", desc := "(II)I" } : Jvm.MethodName)) ∈ GW := gw_i 216 (by decide +kernel) rfl
theorem w_st_Ma_min : (Cond.static ({ cls := "java/lang/Math", name := "min", desc := "(II)I" } : Jvm.MethodName)) ∈ GW := gw_i 217 (by decide +kernel) rfl
theorem w_cd_Ma_min : (Cond.code ({ cls := "java/lang/Math", name := "min", desc := "(II)I" } : Jvm.MethodName) prog_7_method_69_code (2 : Nat) (Option.some Jvm.ClassFile.FieldType.int)) ∈ GW := gw_i 218 (by decide +kernel) rfl
theorem w_ml_Gs_43 : (Cond.methodLink "GradientShards" (43 : Nat) ({ cls := "GradientShards", name := "linkOf", desc := "(II)LGradientShards$Link;" } : Jvm.MethodName)) ∈ GW := gw_i 219 (by decide +kernel) rfl
theorem w_im_Gs_linkOf : (Cond.instanceMethod ({ cls := "GradientShards", name := "linkOf", desc := "(II)LGradientShards$Link;" } : Jvm.MethodName)) ∈ GW := gw_i 221 (by decide +kernel) rfl
theorem w_cd_Gs_linkOf : (Cond.code ({ cls := "GradientShards", name := "linkOf", desc := "(II)LGradientShards$Link;" } : Jvm.MethodName) prog_1_method_28_code (3 : Nat) (Option.some (Jvm.ClassFile.FieldType.object "GradientShards$Link"))) ∈ GW := gw_i 222 (by decide +kernel) rfl
theorem w_im_Lk_keptNumber : (Cond.instanceMethod ({ cls := "GradientShards$Link", name := "keptNumber", desc := "()I" } : Jvm.MethodName)) ∈ GW := gw_i 225 (by decide +kernel) rfl
theorem w_cd_Lk_keptNumber : (Cond.code ({ cls := "GradientShards$Link", name := "keptNumber", desc := "()I" } : Jvm.MethodName) prog_2_method_3_code (1 : Nat) (Option.some Jvm.ClassFile.FieldType.int)) ∈ GW := gw_i 226 (by decide +kernel) rfl
theorem w_ml_Gs_53 : (Cond.methodLink "GradientShards" (53 : Nat) ({ cls := "GradientShards", name := "makeMessage", desc := "(LGradientShards$Link;II)V" } : Jvm.MethodName)) ∈ GW := gw_i 227 (by decide +kernel) rfl
theorem w_im_Gs_makeMessage : (Cond.instanceMethod ({ cls := "GradientShards", name := "makeMessage", desc := "(LGradientShards$Link;II)V" } : Jvm.MethodName)) ∈ GW := gw_i 229 (by decide +kernel) rfl
theorem w_cd_Gs_makeMessage : (Cond.code ({ cls := "GradientShards", name := "makeMessage", desc := "(LGradientShards$Link;II)V" } : Jvm.MethodName) prog_1_method_29_code (4 : Nat) (Option.none : Option Jvm.ClassFile.FieldType)) ∈ GW := gw_i 230 (by decide +kernel) rfl
theorem w_im_Lk_append : (Cond.instanceMethod ({ cls := "GradientShards$Link", name := "append", desc := "(II)I" } : Jvm.MethodName)) ∈ GW := gw_i 233 (by decide +kernel) rfl
theorem w_cd_Lk_append : (Cond.code ({ cls := "GradientShards$Link", name := "append", desc := "(II)I" } : Jvm.MethodName) prog_2_method_5_code (5 : Nat) (Option.some Jvm.ClassFile.FieldType.int)) ∈ GW := gw_i 234 (by decide +kernel) rfl
theorem w_ml_Lk_41 : (Cond.methodLink "GradientShards$Link" (41 : Nat) ({ cls := "GradientShards$Link", name := "slotOf", desc := "(I)I" } : Jvm.MethodName)) ∈ GW := gw_i 235 (by decide +kernel) rfl
theorem w_st_Lk_slotOf : (Cond.static ({ cls := "GradientShards$Link", name := "slotOf", desc := "(I)I" } : Jvm.MethodName)) ∈ GW := gw_i 236 (by decide +kernel) rfl
theorem w_cd_Lk_slotOf : (Cond.code ({ cls := "GradientShards$Link", name := "slotOf", desc := "(I)I" } : Jvm.MethodName) prog_2_method_2_code (1 : Nat) (Option.some Jvm.ClassFile.FieldType.int)) ∈ GW := gw_i 237 (by decide +kernel) rfl
theorem w_ml_Gs_124 : (Cond.methodLink "GradientShards" (124 : Nat) ({ cls := "GradientShards", name := "sendMessage", desc := "(LGradientShards$Link;I)V" } : Jvm.MethodName)) ∈ GW := gw_i 238 (by decide +kernel) rfl
theorem w_im_Gs_sendMessage : (Cond.instanceMethod ({ cls := "GradientShards", name := "sendMessage", desc := "(LGradientShards$Link;I)V" } : Jvm.MethodName)) ∈ GW := gw_i 240 (by decide +kernel) rfl
theorem w_cd_Gs_sendMessage : (Cond.code ({ cls := "GradientShards", name := "sendMessage", desc := "(LGradientShards$Link;I)V" } : Jvm.MethodName) prog_1_method_30_code (3 : Nat) (Option.none : Option Jvm.ClassFile.FieldType)) ∈ GW := gw_i 241 (by decide +kernel) rfl
theorem w_im_Lk_noteSending : (Cond.instanceMethod ({ cls := "GradientShards$Link", name := "noteSending", desc := "(II)V" } : Jvm.MethodName)) ∈ GW := gw_i 244 (by decide +kernel) rfl
theorem w_cd_Lk_noteSending : (Cond.code ({ cls := "GradientShards$Link", name := "noteSending", desc := "(II)V" } : Jvm.MethodName) prog_2_method_6_code (3 : Nat) (Option.none : Option Jvm.ClassFile.FieldType)) ∈ GW := gw_i 245 (by decide +kernel) rfl
theorem w_st_Nt_codeOf : (Cond.static ({ cls := "GradientShards$Net", name := "codeOf", desc := "(ILGradientShards$Link;I)I" } : Jvm.MethodName)) ∈ GW := gw_i 247 (by decide +kernel) rfl
theorem w_cd_Nt_codeOf : (Cond.code ({ cls := "GradientShards$Net", name := "codeOf", desc := "(ILGradientShards$Link;I)I" } : Jvm.MethodName) prog_3_method_2_code (3 : Nat) (Option.some Jvm.ClassFile.FieldType.int)) ∈ GW := gw_i 248 (by decide +kernel) rfl
theorem w_im_Nt_send : (Cond.instanceMethod ({ cls := "GradientShards$Net", name := "send", desc := "(I)V" } : Jvm.MethodName)) ∈ GW := gw_i 251 (by decide +kernel) rfl
theorem w_cd_Nt_send : (Cond.code ({ cls := "GradientShards$Net", name := "send", desc := "(I)V" } : Jvm.MethodName) prog_3_method_9_code (2 : Nat) (Option.none : Option Jvm.ClassFile.FieldType)) ∈ GW := gw_i 252 (by decide +kernel) rfl
theorem w_ml_Nt_30 : (Cond.methodLink "GradientShards$Net" (30 : Nat) ({ cls := "GradientShards$Net", name := "isFull", desc := "()Z" } : Jvm.MethodName)) ∈ GW := gw_i 253 (by decide +kernel) rfl
theorem w_im_Nt_isFull : (Cond.instanceMethod ({ cls := "GradientShards$Net", name := "isFull", desc := "()Z" } : Jvm.MethodName)) ∈ GW := gw_i 255 (by decide +kernel) rfl
theorem w_cd_Nt_isFull : (Cond.code ({ cls := "GradientShards$Net", name := "isFull", desc := "()Z" } : Jvm.MethodName) prog_3_method_8_code (1 : Nat) (Option.some Jvm.ClassFile.FieldType.boolean)) ∈ GW := gw_i 256 (by decide +kernel) rfl
theorem w_ml_Lw_26 : (Cond.methodLink "GradientShardsLaw" (26 : Nat) ({ cls := "GradientShards", name := "advance", desc := "(I)Z" } : Jvm.MethodName)) ∈ GW := gw_i 257 (by decide +kernel) rfl
theorem w_im_Gs_advance : (Cond.instanceMethod ({ cls := "GradientShards", name := "advance", desc := "(I)Z" } : Jvm.MethodName)) ∈ GW := gw_i 258 (by decide +kernel) rfl
theorem w_se_Gs_advance : (Cond.selects "GradientShards" ({ cls := "GradientShards", name := "advance", desc := "(I)Z" } : Jvm.MethodName) ({ cls := "GradientShards", name := "advance", desc := "(I)Z" } : Jvm.MethodName)) ∈ GW := gw_i 259 (by decide +kernel) rfl
theorem w_cd_Gs_advance : (Cond.code ({ cls := "GradientShards", name := "advance", desc := "(I)Z" } : Jvm.MethodName) prog_1_method_3_code (3 : Nat) (Option.some Jvm.ClassFile.FieldType.boolean)) ∈ GW := gw_i 260 (by decide +kernel) rfl
theorem w_ml_Gs_57 : (Cond.methodLink "GradientShards" (57 : Nat) ({ cls := "GradientShards", name := "keepsTooManyToEnd", desc := "(I)Z" } : Jvm.MethodName)) ∈ GW := gw_i 261 (by decide +kernel) rfl
theorem w_im_Gs_keepsTooManyToEnd : (Cond.instanceMethod ({ cls := "GradientShards", name := "keepsTooManyToEnd", desc := "(I)Z" } : Jvm.MethodName)) ∈ GW := gw_i 263 (by decide +kernel) rfl
theorem w_cd_Gs_keepsTooManyToEnd : (Cond.code ({ cls := "GradientShards", name := "keepsTooManyToEnd", desc := "(I)Z" } : Jvm.MethodName) prog_1_method_27_code (3 : Nat) (Option.some Jvm.ClassFile.FieldType.boolean)) ∈ GW := gw_i 264 (by decide +kernel) rfl
theorem w_ml_Lw_31 : (Cond.methodLink "GradientShardsLaw" (31 : Nat) ({ cls := "GradientShards", name := "ready", desc := "(II)Z" } : Jvm.MethodName)) ∈ GW := gw_i 265 (by decide +kernel) rfl
theorem w_im_Gs_ready : (Cond.instanceMethod ({ cls := "GradientShards", name := "ready", desc := "(II)Z" } : Jvm.MethodName)) ∈ GW := gw_i 266 (by decide +kernel) rfl
theorem w_se_Gs_ready : (Cond.selects "GradientShards" ({ cls := "GradientShards", name := "ready", desc := "(II)Z" } : Jvm.MethodName) ({ cls := "GradientShards", name := "ready", desc := "(II)Z" } : Jvm.MethodName)) ∈ GW := gw_i 267 (by decide +kernel) rfl
theorem w_cd_Gs_ready : (Cond.code ({ cls := "GradientShards", name := "ready", desc := "(II)Z" } : Jvm.MethodName) prog_1_method_4_code (4 : Nat) (Option.some Jvm.ClassFile.FieldType.boolean)) ∈ GW := gw_i 268 (by decide +kernel) rfl
theorem w_ml_Lw_36 : (Cond.methodLink "GradientShardsLaw" (36 : Nat) ({ cls := "GradientShards", name := "pull", desc := "(II)I" } : Jvm.MethodName)) ∈ GW := gw_i 269 (by decide +kernel) rfl
theorem w_im_Gs_pull : (Cond.instanceMethod ({ cls := "GradientShards", name := "pull", desc := "(II)I" } : Jvm.MethodName)) ∈ GW := gw_i 270 (by decide +kernel) rfl
theorem w_se_Gs_pull : (Cond.selects "GradientShards" ({ cls := "GradientShards", name := "pull", desc := "(II)I" } : Jvm.MethodName) ({ cls := "GradientShards", name := "pull", desc := "(II)I" } : Jvm.MethodName)) ∈ GW := gw_i 271 (by decide +kernel) rfl
theorem w_cd_Gs_pull : (Cond.code ({ cls := "GradientShards", name := "pull", desc := "(II)I" } : Jvm.MethodName) prog_1_method_5_code (3 : Nat) (Option.some Jvm.ClassFile.FieldType.int)) ∈ GW := gw_i 272 (by decide +kernel) rfl
theorem w_ml_Gs_67 : (Cond.methodLink "GradientShards" (67 : Nat) ({ cls := "GradientShards", name := "ready", desc := "(II)Z" } : Jvm.MethodName)) ∈ GW := gw_i 273 (by decide +kernel) rfl
theorem w_ml_Lw_41 : (Cond.methodLink "GradientShardsLaw" (41 : Nat) ({ cls := "GradientShards", name := "clock", desc := "(I)I" } : Jvm.MethodName)) ∈ GW := gw_i 274 (by decide +kernel) rfl
theorem w_im_Gs_clock : (Cond.instanceMethod ({ cls := "GradientShards", name := "clock", desc := "(I)I" } : Jvm.MethodName)) ∈ GW := gw_i 275 (by decide +kernel) rfl
theorem w_se_Gs_clock : (Cond.selects "GradientShards" ({ cls := "GradientShards", name := "clock", desc := "(I)I" } : Jvm.MethodName) ({ cls := "GradientShards", name := "clock", desc := "(I)I" } : Jvm.MethodName)) ∈ GW := gw_i 276 (by decide +kernel) rfl
theorem w_cd_Gs_clock : (Cond.code ({ cls := "GradientShards", name := "clock", desc := "(I)I" } : Jvm.MethodName) prog_1_method_6_code (2 : Nat) (Option.some Jvm.ClassFile.FieldType.int)) ∈ GW := gw_i 277 (by decide +kernel) rfl
theorem w_ml_Lw_46 : (Cond.methodLink "GradientShardsLaw" (46 : Nat) ({ cls := "GradientShards", name := "deliver", desc := "(I)I" } : Jvm.MethodName)) ∈ GW := gw_i 278 (by decide +kernel) rfl
theorem w_im_Gs_deliver : (Cond.instanceMethod ({ cls := "GradientShards", name := "deliver", desc := "(I)I" } : Jvm.MethodName)) ∈ GW := gw_i 279 (by decide +kernel) rfl
theorem w_se_Gs_deliver : (Cond.selects "GradientShards" ({ cls := "GradientShards", name := "deliver", desc := "(I)I" } : Jvm.MethodName) ({ cls := "GradientShards", name := "deliver", desc := "(I)I" } : Jvm.MethodName)) ∈ GW := gw_i 280 (by decide +kernel) rfl
theorem w_cd_Gs_deliver : (Cond.code ({ cls := "GradientShards", name := "deliver", desc := "(I)I" } : Jvm.MethodName) prog_1_method_7_code (5 : Nat) (Option.some Jvm.ClassFile.FieldType.int)) ∈ GW := gw_i 281 (by decide +kernel) rfl
theorem w_im_Nt_holds : (Cond.instanceMethod ({ cls := "GradientShards$Net", name := "holds", desc := "(I)Z" } : Jvm.MethodName)) ∈ GW := gw_i 284 (by decide +kernel) rfl
theorem w_cd_Nt_holds : (Cond.code ({ cls := "GradientShards$Net", name := "holds", desc := "(I)Z" } : Jvm.MethodName) prog_3_method_7_code (2 : Nat) (Option.some Jvm.ClassFile.FieldType.boolean)) ∈ GW := gw_i 285 (by decide +kernel) rfl
theorem w_im_Nt_remove : (Cond.instanceMethod ({ cls := "GradientShards$Net", name := "remove", desc := "(I)V" } : Jvm.MethodName)) ∈ GW := gw_i 288 (by decide +kernel) rfl
theorem w_cd_Nt_remove : (Cond.code ({ cls := "GradientShards$Net", name := "remove", desc := "(I)V" } : Jvm.MethodName) prog_3_method_10_code (2 : Nat) (Option.none : Option Jvm.ClassFile.FieldType)) ∈ GW := gw_i 289 (by decide +kernel) rfl
theorem w_ml_Nt_37 : (Cond.methodLink "GradientShards$Net" (37 : Nat) ({ cls := "java/lang/System", name := "arraycopy", desc := "(Ljava/lang/Object;ILjava/lang/Object;II)V" } : Jvm.MethodName)) ∈ GW := gw_i 290 (by decide +kernel) rfl
theorem w_st_Sy_arraycopy : (Cond.static ({ cls := "java/lang/System", name := "arraycopy", desc := "(Ljava/lang/Object;ILjava/lang/Object;II)V" } : Jvm.MethodName)) ∈ GW := gw_i 291 (by decide +kernel) rfl
theorem w_na_Sy_arraycopy : (Cond.native ({ cls := "java/lang/System", name := "arraycopy", desc := "(Ljava/lang/Object;ILjava/lang/Object;II)V" } : Jvm.MethodName)) ∈ GW := gw_i 292 (by decide +kernel) rfl
theorem w_st_Nt_shardOf : (Cond.static ({ cls := "GradientShards$Net", name := "shardOf", desc := "(I)I" } : Jvm.MethodName)) ∈ GW := gw_i 294 (by decide +kernel) rfl
theorem w_cd_Nt_shardOf : (Cond.code ({ cls := "GradientShards$Net", name := "shardOf", desc := "(I)I" } : Jvm.MethodName) prog_3_method_5_code (1 : Nat) (Option.some Jvm.ClassFile.FieldType.int)) ∈ GW := gw_i 295 (by decide +kernel) rfl
theorem w_st_Nt_workerOf : (Cond.static ({ cls := "GradientShards$Net", name := "workerOf", desc := "(I)I" } : Jvm.MethodName)) ∈ GW := gw_i 297 (by decide +kernel) rfl
theorem w_cd_Nt_workerOf : (Cond.code ({ cls := "GradientShards$Net", name := "workerOf", desc := "(I)I" } : Jvm.MethodName) prog_3_method_4_code (1 : Nat) (Option.some Jvm.ClassFile.FieldType.int)) ∈ GW := gw_i 298 (by decide +kernel) rfl
theorem w_st_Nt_kindOf : (Cond.static ({ cls := "GradientShards$Net", name := "kindOf", desc := "(I)I" } : Jvm.MethodName)) ∈ GW := gw_i 300 (by decide +kernel) rfl
theorem w_cd_Nt_kindOf : (Cond.code ({ cls := "GradientShards$Net", name := "kindOf", desc := "(I)I" } : Jvm.MethodName) prog_3_method_3_code (1 : Nat) (Option.some Jvm.ClassFile.FieldType.int)) ∈ GW := gw_i 301 (by decide +kernel) rfl
theorem w_st_Nt_numberOf : (Cond.static ({ cls := "GradientShards$Net", name := "numberOf", desc := "(I)I" } : Jvm.MethodName)) ∈ GW := gw_i 303 (by decide +kernel) rfl
theorem w_cd_Nt_numberOf : (Cond.code ({ cls := "GradientShards$Net", name := "numberOf", desc := "(I)I" } : Jvm.MethodName) prog_3_method_6_code (1 : Nat) (Option.some Jvm.ClassFile.FieldType.int)) ∈ GW := gw_i 304 (by decide +kernel) rfl
theorem w_im_Lk_confirm : (Cond.instanceMethod ({ cls := "GradientShards$Link", name := "confirm", desc := "(I)Z" } : Jvm.MethodName)) ∈ GW := gw_i 307 (by decide +kernel) rfl
theorem w_cd_Lk_confirm : (Cond.code ({ cls := "GradientShards$Link", name := "confirm", desc := "(I)Z" } : Jvm.MethodName) prog_2_method_8_code (2 : Nat) (Option.some Jvm.ClassFile.FieldType.boolean)) ∈ GW := gw_i 308 (by decide +kernel) rfl
theorem w_ml_Gs_104 : (Cond.methodLink "GradientShards" (104 : Nat) ({ cls := "GradientShards", name := "arrive", desc := "(LGradientShards$Shard;LGradientShards$Link;I)I" } : Jvm.MethodName)) ∈ GW := gw_i 309 (by decide +kernel) rfl
theorem w_im_Gs_arrive : (Cond.instanceMethod ({ cls := "GradientShards", name := "arrive", desc := "(LGradientShards$Shard;LGradientShards$Link;I)I" } : Jvm.MethodName)) ∈ GW := gw_i 311 (by decide +kernel) rfl
theorem w_cd_Gs_arrive : (Cond.code ({ cls := "GradientShards", name := "arrive", desc := "(LGradientShards$Shard;LGradientShards$Link;I)I" } : Jvm.MethodName) prog_1_method_31_code (5 : Nat) (Option.some Jvm.ClassFile.FieldType.int)) ∈ GW := gw_i 312 (by decide +kernel) rfl
theorem w_im_Lk_hasTaken : (Cond.instanceMethod ({ cls := "GradientShards$Link", name := "hasTaken", desc := "(I)Z" } : Jvm.MethodName)) ∈ GW := gw_i 315 (by decide +kernel) rfl
theorem w_cd_Lk_hasTaken : (Cond.code ({ cls := "GradientShards$Link", name := "hasTaken", desc := "(I)Z" } : Jvm.MethodName) prog_2_method_9_code (2 : Nat) (Option.some Jvm.ClassFile.FieldType.boolean)) ∈ GW := gw_i 316 (by decide +kernel) rfl
theorem w_im_Lk_take : (Cond.instanceMethod ({ cls := "GradientShards$Link", name := "take", desc := "(I)V" } : Jvm.MethodName)) ∈ GW := gw_i 319 (by decide +kernel) rfl
theorem w_cd_Lk_take : (Cond.code ({ cls := "GradientShards$Link", name := "take", desc := "(I)V" } : Jvm.MethodName) prog_2_method_10_code (2 : Nat) (Option.none : Option Jvm.ClassFile.FieldType)) ∈ GW := gw_i 320 (by decide +kernel) rfl
theorem w_im_Sh_applyEndedClocks : (Cond.instanceMethod ({ cls := "GradientShards$Shard", name := "applyEndedClocks", desc := "()V" } : Jvm.MethodName)) ∈ GW := gw_i 323 (by decide +kernel) rfl
theorem w_cd_Sh_applyEndedClocks : (Cond.code ({ cls := "GradientShards$Shard", name := "applyEndedClocks", desc := "()V" } : Jvm.MethodName) prog_4_method_4_code (6 : Nat) (Option.none : Option Jvm.ClassFile.FieldType)) ∈ GW := gw_i 324 (by decide +kernel) rfl
theorem w_ml_Sh_54 : (Cond.methodLink "GradientShards$Shard" (54 : Nat) ({ cls := "GradientShards$Shard", name := "leastEndsHandled", desc := "()I" } : Jvm.MethodName)) ∈ GW := gw_i 325 (by decide +kernel) rfl
theorem w_im_Sh_leastEndsHandled : (Cond.instanceMethod ({ cls := "GradientShards$Shard", name := "leastEndsHandled", desc := "()I" } : Jvm.MethodName)) ∈ GW := gw_i 327 (by decide +kernel) rfl
theorem w_cd_Sh_leastEndsHandled : (Cond.code ({ cls := "GradientShards$Shard", name := "leastEndsHandled", desc := "()I" } : Jvm.MethodName) prog_4_method_3_code (6 : Nat) (Option.some Jvm.ClassFile.FieldType.int)) ∈ GW := gw_i 328 (by decide +kernel) rfl
theorem w_ml_Sh_48 : (Cond.methodLink "GradientShards$Shard" (48 : Nat) ({ cls := "java/lang/Math", name := "min", desc := "(II)I" } : Jvm.MethodName)) ∈ GW := gw_i 329 (by decide +kernel) rfl
theorem w_ml_Sh_60 : (Cond.methodLink "GradientShards$Shard" (60 : Nat) ({ cls := "GradientShards$Shard", name := "sumOfContributions", desc := "(I)I" } : Jvm.MethodName)) ∈ GW := gw_i 330 (by decide +kernel) rfl
theorem w_im_Sh_sumOfContributions : (Cond.instanceMethod ({ cls := "GradientShards$Shard", name := "sumOfContributions", desc := "(I)I" } : Jvm.MethodName)) ∈ GW := gw_i 332 (by decide +kernel) rfl
theorem w_cd_Sh_sumOfContributions : (Cond.code ({ cls := "GradientShards$Shard", name := "sumOfContributions", desc := "(I)I" } : Jvm.MethodName) prog_4_method_5_code (7 : Nat) (Option.some Jvm.ClassFile.FieldType.int)) ∈ GW := gw_i 333 (by decide +kernel) rfl
theorem w_im_Lk_contribution : (Cond.instanceMethod ({ cls := "GradientShards$Link", name := "contribution", desc := "(I)I" } : Jvm.MethodName)) ∈ GW := gw_i 336 (by decide +kernel) rfl
theorem w_cd_Lk_contribution : (Cond.code ({ cls := "GradientShards$Link", name := "contribution", desc := "(I)I" } : Jvm.MethodName) prog_2_method_12_code (4 : Nat) (Option.some Jvm.ClassFile.FieldType.int)) ∈ GW := gw_i 337 (by decide +kernel) rfl
theorem w_st_Gs_bounded : (Cond.static ({ cls := "GradientShards", name := "bounded", desc := "(I)I" } : Jvm.MethodName)) ∈ GW := gw_i 339 (by decide +kernel) rfl
theorem w_cd_Gs_bounded : (Cond.code ({ cls := "GradientShards", name := "bounded", desc := "(I)I" } : Jvm.MethodName) prog_1_method_32_code (1 : Nat) (Option.some Jvm.ClassFile.FieldType.int)) ∈ GW := gw_i 340 (by decide +kernel) rfl
theorem w_ml_Sh_64 : (Cond.methodLink "GradientShards$Shard" (64 : Nat) ({ cls := "GradientShards$Shard", name := "applySum", desc := "(II)V" } : Jvm.MethodName)) ∈ GW := gw_i 342 (by decide +kernel) rfl
theorem w_im_Sh_applySum : (Cond.instanceMethod ({ cls := "GradientShards$Shard", name := "applySum", desc := "(II)V" } : Jvm.MethodName)) ∈ GW := gw_i 344 (by decide +kernel) rfl
theorem w_cd_Sh_applySum : (Cond.code ({ cls := "GradientShards$Shard", name := "applySum", desc := "(II)V" } : Jvm.MethodName) prog_4_method_6_code (3 : Nat) (Option.none : Option Jvm.ClassFile.FieldType)) ∈ GW := gw_i 345 (by decide +kernel) rfl
theorem w_ml_Sh_76 : (Cond.methodLink "GradientShards$Shard" (76 : Nat) ({ cls := "GradientShards$Shard", name := "rootOf", desc := "(I)I" } : Jvm.MethodName)) ∈ GW := gw_i 346 (by decide +kernel) rfl
theorem w_st_Sh_rootOf : (Cond.static ({ cls := "GradientShards$Shard", name := "rootOf", desc := "(I)I" } : Jvm.MethodName)) ∈ GW := gw_i 347 (by decide +kernel) rfl
theorem w_cd_Sh_rootOf : (Cond.code ({ cls := "GradientShards$Shard", name := "rootOf", desc := "(I)I" } : Jvm.MethodName) prog_4_method_7_code (5 : Nat) (Option.some Jvm.ClassFile.FieldType.int)) ∈ GW := gw_i 348 (by decide +kernel) rfl
theorem w_im_Lk_moveBoundaryBehindNextEnd : (Cond.instanceMethod ({ cls := "GradientShards$Link", name := "moveBoundaryBehindNextEnd", desc := "()V" } : Jvm.MethodName)) ∈ GW := gw_i 351 (by decide +kernel) rfl
theorem w_cd_Lk_moveBoundaryBehindNextEnd : (Cond.code ({ cls := "GradientShards$Link", name := "moveBoundaryBehindNextEnd", desc := "()V" } : Jvm.MethodName) prog_2_method_13_code (2 : Nat) (Option.none : Option Jvm.ClassFile.FieldType)) ∈ GW := gw_i 352 (by decide +kernel) rfl
theorem w_ml_Lw_50 : (Cond.methodLink "GradientShardsLaw" (50 : Nat) ({ cls := "GradientShards", name := "drop", desc := "(I)Z" } : Jvm.MethodName)) ∈ GW := gw_i 353 (by decide +kernel) rfl
theorem w_im_Gs_drop : (Cond.instanceMethod ({ cls := "GradientShards", name := "drop", desc := "(I)Z" } : Jvm.MethodName)) ∈ GW := gw_i 354 (by decide +kernel) rfl
theorem w_se_Gs_drop : (Cond.selects "GradientShards" ({ cls := "GradientShards", name := "drop", desc := "(I)Z" } : Jvm.MethodName) ({ cls := "GradientShards", name := "drop", desc := "(I)Z" } : Jvm.MethodName)) ∈ GW := gw_i 355 (by decide +kernel) rfl
theorem w_cd_Gs_drop : (Cond.code ({ cls := "GradientShards", name := "drop", desc := "(I)Z" } : Jvm.MethodName) prog_1_method_8_code (2 : Nat) (Option.some Jvm.ClassFile.FieldType.boolean)) ∈ GW := gw_i 356 (by decide +kernel) rfl
theorem w_ml_Lw_54 : (Cond.methodLink "GradientShardsLaw" (54 : Nat) ({ cls := "GradientShards", name := "copy", desc := "(I)Z" } : Jvm.MethodName)) ∈ GW := gw_i 357 (by decide +kernel) rfl
theorem w_im_Gs_copy : (Cond.instanceMethod ({ cls := "GradientShards", name := "copy", desc := "(I)Z" } : Jvm.MethodName)) ∈ GW := gw_i 358 (by decide +kernel) rfl
theorem w_se_Gs_copy : (Cond.selects "GradientShards" ({ cls := "GradientShards", name := "copy", desc := "(I)Z" } : Jvm.MethodName) ({ cls := "GradientShards", name := "copy", desc := "(I)Z" } : Jvm.MethodName)) ∈ GW := gw_i 359 (by decide +kernel) rfl
theorem w_cd_Gs_copy : (Cond.code ({ cls := "GradientShards", name := "copy", desc := "(I)Z" } : Jvm.MethodName) prog_1_method_9_code (2 : Nat) (Option.some Jvm.ClassFile.FieldType.boolean)) ∈ GW := gw_i 360 (by decide +kernel) rfl
theorem w_ml_Lw_58 : (Cond.methodLink "GradientShardsLaw" (58 : Nat) ({ cls := "GradientShards", name := "tick", desc := "()I" } : Jvm.MethodName)) ∈ GW := gw_i 362 (by decide +kernel) rfl
theorem w_im_Gs_tick : (Cond.instanceMethod ({ cls := "GradientShards", name := "tick", desc := "()I" } : Jvm.MethodName)) ∈ GW := gw_i 363 (by decide +kernel) rfl
theorem w_se_Gs_tick : (Cond.selects "GradientShards" ({ cls := "GradientShards", name := "tick", desc := "()I" } : Jvm.MethodName) ({ cls := "GradientShards", name := "tick", desc := "()I" } : Jvm.MethodName)) ∈ GW := gw_i 364 (by decide +kernel) rfl
theorem w_cd_Gs_tick : (Cond.code ({ cls := "GradientShards", name := "tick", desc := "()I" } : Jvm.MethodName) prog_1_method_10_code (5 : Nat) (Option.some Jvm.ClassFile.FieldType.int)) ∈ GW := gw_i 365 (by decide +kernel) rfl
theorem w_im_Lk_isDueAgain : (Cond.instanceMethod ({ cls := "GradientShards$Link", name := "isDueAgain", desc := "(I)Z" } : Jvm.MethodName)) ∈ GW := gw_i 368 (by decide +kernel) rfl
theorem w_cd_Lk_isDueAgain : (Cond.code ({ cls := "GradientShards$Link", name := "isDueAgain", desc := "(I)Z" } : Jvm.MethodName) prog_2_method_7_code (2 : Nat) (Option.some Jvm.ClassFile.FieldType.boolean)) ∈ GW := gw_i 369 (by decide +kernel) rfl
theorem w_ml_Lw_63 : (Cond.methodLink "GradientShardsLaw" (63 : Nat) ({ cls := "GradientShards", name := "run", desc := "(I)I" } : Jvm.MethodName)) ∈ GW := gw_i 370 (by decide +kernel) rfl
theorem w_im_Gs_run : (Cond.instanceMethod ({ cls := "GradientShards", name := "run", desc := "(I)I" } : Jvm.MethodName)) ∈ GW := gw_i 371 (by decide +kernel) rfl
theorem w_se_Gs_run : (Cond.selects "GradientShards" ({ cls := "GradientShards", name := "run", desc := "(I)I" } : Jvm.MethodName) ({ cls := "GradientShards", name := "run", desc := "(I)I" } : Jvm.MethodName)) ∈ GW := gw_i 372 (by decide +kernel) rfl
theorem w_cd_Gs_run : (Cond.code ({ cls := "GradientShards", name := "run", desc := "(I)I" } : Jvm.MethodName) prog_1_method_11_code (4 : Nat) (Option.some Jvm.ClassFile.FieldType.int)) ∈ GW := gw_i 373 (by decide +kernel) rfl
theorem w_ml_Gs_134 : (Cond.methodLink "GradientShards" (134 : Nat) ({ cls := "GradientShards", name := "deliver", desc := "(I)I" } : Jvm.MethodName)) ∈ GW := gw_i 374 (by decide +kernel) rfl
theorem w_ml_Gs_137 : (Cond.methodLink "GradientShards" (137 : Nat) ({ cls := "GradientShards", name := "tick", desc := "()I" } : Jvm.MethodName)) ∈ GW := gw_i 375 (by decide +kernel) rfl
theorem w_ml_Lw_67 : (Cond.methodLink "GradientShardsLaw" (67 : Nat) ({ cls := "GradientShards", name := "kill", desc := "(I)Z" } : Jvm.MethodName)) ∈ GW := gw_i 376 (by decide +kernel) rfl
theorem w_im_Gs_kill : (Cond.instanceMethod ({ cls := "GradientShards", name := "kill", desc := "(I)Z" } : Jvm.MethodName)) ∈ GW := gw_i 377 (by decide +kernel) rfl
theorem w_se_Gs_kill : (Cond.selects "GradientShards" ({ cls := "GradientShards", name := "kill", desc := "(I)Z" } : Jvm.MethodName) ({ cls := "GradientShards", name := "kill", desc := "(I)Z" } : Jvm.MethodName)) ∈ GW := gw_i 378 (by decide +kernel) rfl
theorem w_cd_Gs_kill : (Cond.code ({ cls := "GradientShards", name := "kill", desc := "(I)Z" } : Jvm.MethodName) prog_1_method_12_code (2 : Nat) (Option.some Jvm.ClassFile.FieldType.boolean)) ∈ GW := gw_i 379 (by decide +kernel) rfl
theorem w_ml_Gs_140 : (Cond.methodLink "GradientShards" (140 : Nat) ({ cls := "GradientShards", name := "isUp", desc := "(I)Z" } : Jvm.MethodName)) ∈ GW := gw_i 380 (by decide +kernel) rfl
theorem w_im_Gs_isUp : (Cond.instanceMethod ({ cls := "GradientShards", name := "isUp", desc := "(I)Z" } : Jvm.MethodName)) ∈ GW := gw_i 382 (by decide +kernel) rfl
theorem w_cd_Gs_isUp : (Cond.code ({ cls := "GradientShards", name := "isUp", desc := "(I)Z" } : Jvm.MethodName) prog_1_method_25_code (2 : Nat) (Option.some Jvm.ClassFile.FieldType.boolean)) ∈ GW := gw_i 383 (by decide +kernel) rfl
theorem w_ml_Gs_146 : (Cond.methodLink "GradientShards" (146 : Nat) ({ cls := "GradientShards", name := "isShard", desc := "(I)Z" } : Jvm.MethodName)) ∈ GW := gw_i 384 (by decide +kernel) rfl
theorem w_st_Gs_isShard : (Cond.static ({ cls := "GradientShards", name := "isShard", desc := "(I)Z" } : Jvm.MethodName)) ∈ GW := gw_i 385 (by decide +kernel) rfl
theorem w_cd_Gs_isShard : (Cond.code ({ cls := "GradientShards", name := "isShard", desc := "(I)Z" } : Jvm.MethodName) prog_1_method_24_code (1 : Nat) (Option.some Jvm.ClassFile.FieldType.boolean)) ∈ GW := gw_i 386 (by decide +kernel) rfl
theorem w_im_Nt_removeAllOf : (Cond.instanceMethod ({ cls := "GradientShards$Net", name := "removeAllOf", desc := "(I)V" } : Jvm.MethodName)) ∈ GW := gw_i 389 (by decide +kernel) rfl
theorem w_cd_Nt_removeAllOf : (Cond.code ({ cls := "GradientShards$Net", name := "removeAllOf", desc := "(I)V" } : Jvm.MethodName) prog_3_method_11_code (4 : Nat) (Option.none : Option Jvm.ClassFile.FieldType)) ∈ GW := gw_i 390 (by decide +kernel) rfl
theorem w_ml_Nt_43 : (Cond.methodLink "GradientShards$Net" (43 : Nat) ({ cls := "GradientShards$Net", name := "shardOf", desc := "(I)I" } : Jvm.MethodName)) ∈ GW := gw_i 391 (by decide +kernel) rfl
theorem w_ml_Lw_71 : (Cond.methodLink "GradientShardsLaw" (71 : Nat) ({ cls := "GradientShards", name := "recover", desc := "(I)Z" } : Jvm.MethodName)) ∈ GW := gw_i 392 (by decide +kernel) rfl
theorem w_im_Gs_recover : (Cond.instanceMethod ({ cls := "GradientShards", name := "recover", desc := "(I)Z" } : Jvm.MethodName)) ∈ GW := gw_i 393 (by decide +kernel) rfl
theorem w_se_Gs_recover : (Cond.selects "GradientShards" ({ cls := "GradientShards", name := "recover", desc := "(I)Z" } : Jvm.MethodName) ({ cls := "GradientShards", name := "recover", desc := "(I)Z" } : Jvm.MethodName)) ∈ GW := gw_i 394 (by decide +kernel) rfl
theorem w_cd_Gs_recover : (Cond.code ({ cls := "GradientShards", name := "recover", desc := "(I)Z" } : Jvm.MethodName) prog_1_method_13_code (2 : Nat) (Option.some Jvm.ClassFile.FieldType.boolean)) ∈ GW := gw_i 395 (by decide +kernel) rfl
theorem w_im_Sh_goBackToCheckpoint : (Cond.instanceMethod ({ cls := "GradientShards$Shard", name := "goBackToCheckpoint", desc := "()V" } : Jvm.MethodName)) ∈ GW := gw_i 398 (by decide +kernel) rfl
theorem w_cd_Sh_goBackToCheckpoint : (Cond.code ({ cls := "GradientShards$Shard", name := "goBackToCheckpoint", desc := "()V" } : Jvm.MethodName) prog_4_method_9_code (5 : Nat) (Option.none : Option Jvm.ClassFile.FieldType)) ∈ GW := gw_i 399 (by decide +kernel) rfl
theorem w_ml_Sh_79 : (Cond.methodLink "GradientShards$Shard" (79 : Nat) ({ cls := "java/lang/System", name := "arraycopy", desc := "(Ljava/lang/Object;ILjava/lang/Object;II)V" } : Jvm.MethodName)) ∈ GW := gw_i 400 (by decide +kernel) rfl
theorem w_im_Lk_goBackToStart : (Cond.instanceMethod ({ cls := "GradientShards$Link", name := "goBackToStart", desc := "(I)V" } : Jvm.MethodName)) ∈ GW := gw_i 403 (by decide +kernel) rfl
theorem w_cd_Lk_goBackToStart : (Cond.code ({ cls := "GradientShards$Link", name := "goBackToStart", desc := "(I)V" } : Jvm.MethodName) prog_2_method_15_code (3 : Nat) (Option.none : Option Jvm.ClassFile.FieldType)) ∈ GW := gw_i 404 (by decide +kernel) rfl
theorem w_ml_Lw_75 : (Cond.methodLink "GradientShardsLaw" (75 : Nat) ({ cls := "GradientShards", name := "checkpoint", desc := "(I)I" } : Jvm.MethodName)) ∈ GW := gw_i 405 (by decide +kernel) rfl
theorem w_im_Gs_checkpoint : (Cond.instanceMethod ({ cls := "GradientShards", name := "checkpoint", desc := "(I)I" } : Jvm.MethodName)) ∈ GW := gw_i 406 (by decide +kernel) rfl
theorem w_se_Gs_checkpoint : (Cond.selects "GradientShards" ({ cls := "GradientShards", name := "checkpoint", desc := "(I)I" } : Jvm.MethodName) ({ cls := "GradientShards", name := "checkpoint", desc := "(I)I" } : Jvm.MethodName)) ∈ GW := gw_i 407 (by decide +kernel) rfl
theorem w_cd_Gs_checkpoint : (Cond.code ({ cls := "GradientShards", name := "checkpoint", desc := "(I)I" } : Jvm.MethodName) prog_1_method_14_code (2 : Nat) (Option.some Jvm.ClassFile.FieldType.int)) ∈ GW := gw_i 408 (by decide +kernel) rfl
theorem w_im_Sh_makeCheckpoint : (Cond.instanceMethod ({ cls := "GradientShards$Shard", name := "makeCheckpoint", desc := "()I" } : Jvm.MethodName)) ∈ GW := gw_i 411 (by decide +kernel) rfl
theorem w_cd_Sh_makeCheckpoint : (Cond.code ({ cls := "GradientShards$Shard", name := "makeCheckpoint", desc := "()I" } : Jvm.MethodName) prog_4_method_8_code (6 : Nat) (Option.some Jvm.ClassFile.FieldType.int)) ∈ GW := gw_i 412 (by decide +kernel) rfl
theorem w_im_Lk_keepFromBoundary : (Cond.instanceMethod ({ cls := "GradientShards$Link", name := "keepFromBoundary", desc := "()I" } : Jvm.MethodName)) ∈ GW := gw_i 415 (by decide +kernel) rfl
theorem w_cd_Lk_keepFromBoundary : (Cond.code ({ cls := "GradientShards$Link", name := "keepFromBoundary", desc := "()I" } : Jvm.MethodName) prog_2_method_14_code (2 : Nat) (Option.some Jvm.ClassFile.FieldType.int)) ∈ GW := gw_i 416 (by decide +kernel) rfl
theorem w_ml_Lk_57 : (Cond.methodLink "GradientShards$Link" (57 : Nat) ({ cls := "java/lang/Math", name := "max", desc := "(II)I" } : Jvm.MethodName)) ∈ GW := gw_i 417 (by decide +kernel) rfl
theorem w_st_Ma_max : (Cond.static ({ cls := "java/lang/Math", name := "max", desc := "(II)I" } : Jvm.MethodName)) ∈ GW := gw_i 418 (by decide +kernel) rfl
theorem w_cd_Ma_max : (Cond.code ({ cls := "java/lang/Math", name := "max", desc := "(II)I" } : Jvm.MethodName) prog_7_method_65_code (2 : Nat) (Option.some Jvm.ClassFile.FieldType.int)) ∈ GW := gw_i 419 (by decide +kernel) rfl
theorem w_ml_Lw_79 : (Cond.methodLink "GradientShardsLaw" (79 : Nat) ({ cls := "GradientShards", name := "done", desc := "(I)I" } : Jvm.MethodName)) ∈ GW := gw_i 420 (by decide +kernel) rfl
theorem w_im_Gs_done : (Cond.instanceMethod ({ cls := "GradientShards", name := "done", desc := "(I)I" } : Jvm.MethodName)) ∈ GW := gw_i 421 (by decide +kernel) rfl
theorem w_se_Gs_done : (Cond.selects "GradientShards" ({ cls := "GradientShards", name := "done", desc := "(I)I" } : Jvm.MethodName) ({ cls := "GradientShards", name := "done", desc := "(I)I" } : Jvm.MethodName)) ∈ GW := gw_i 422 (by decide +kernel) rfl
theorem w_cd_Gs_done : (Cond.code ({ cls := "GradientShards", name := "done", desc := "(I)I" } : Jvm.MethodName) prog_1_method_15_code (2 : Nat) (Option.some Jvm.ClassFile.FieldType.int)) ∈ GW := gw_i 423 (by decide +kernel) rfl
theorem w_ml_Lw_83 : (Cond.methodLink "GradientShardsLaw" (83 : Nat) ({ cls := "GradientShards", name := "early", desc := "(I)I" } : Jvm.MethodName)) ∈ GW := gw_i 424 (by decide +kernel) rfl
theorem w_im_Gs_early : (Cond.instanceMethod ({ cls := "GradientShards", name := "early", desc := "(I)I" } : Jvm.MethodName)) ∈ GW := gw_i 425 (by decide +kernel) rfl
theorem w_se_Gs_early : (Cond.selects "GradientShards" ({ cls := "GradientShards", name := "early", desc := "(I)I" } : Jvm.MethodName) ({ cls := "GradientShards", name := "early", desc := "(I)I" } : Jvm.MethodName)) ∈ GW := gw_i 426 (by decide +kernel) rfl
theorem w_cd_Gs_early : (Cond.code ({ cls := "GradientShards", name := "early", desc := "(I)I" } : Jvm.MethodName) prog_1_method_16_code (2 : Nat) (Option.some Jvm.ClassFile.FieldType.int)) ∈ GW := gw_i 427 (by decide +kernel) rfl
theorem w_im_Sh_earlyNumber : (Cond.instanceMethod ({ cls := "GradientShards$Shard", name := "earlyNumber", desc := "()I" } : Jvm.MethodName)) ∈ GW := gw_i 430 (by decide +kernel) rfl
theorem w_cd_Sh_earlyNumber : (Cond.code ({ cls := "GradientShards$Shard", name := "earlyNumber", desc := "()I" } : Jvm.MethodName) prog_4_method_2_code (6 : Nat) (Option.some Jvm.ClassFile.FieldType.int)) ∈ GW := gw_i 431 (by decide +kernel) rfl
theorem w_im_Lk_earlyNumber : (Cond.instanceMethod ({ cls := "GradientShards$Link", name := "earlyNumber", desc := "()I" } : Jvm.MethodName)) ∈ GW := gw_i 434 (by decide +kernel) rfl
theorem w_cd_Lk_earlyNumber : (Cond.code ({ cls := "GradientShards$Link", name := "earlyNumber", desc := "()I" } : Jvm.MethodName) prog_2_method_11_code (3 : Nat) (Option.some Jvm.ClassFile.FieldType.int)) ∈ GW := gw_i 435 (by decide +kernel) rfl
theorem w_ml_Lw_87 : (Cond.methodLink "GradientShardsLaw" (87 : Nat) ({ cls := "GradientShards", name := "kept", desc := "(II)I" } : Jvm.MethodName)) ∈ GW := gw_i 436 (by decide +kernel) rfl
theorem w_im_Gs_kept : (Cond.instanceMethod ({ cls := "GradientShards", name := "kept", desc := "(II)I" } : Jvm.MethodName)) ∈ GW := gw_i 437 (by decide +kernel) rfl
theorem w_se_Gs_kept : (Cond.selects "GradientShards" ({ cls := "GradientShards", name := "kept", desc := "(II)I" } : Jvm.MethodName) ({ cls := "GradientShards", name := "kept", desc := "(II)I" } : Jvm.MethodName)) ∈ GW := gw_i 438 (by decide +kernel) rfl
theorem w_cd_Gs_kept : (Cond.code ({ cls := "GradientShards", name := "kept", desc := "(II)I" } : Jvm.MethodName) prog_1_method_17_code (3 : Nat) (Option.some Jvm.ClassFile.FieldType.int)) ∈ GW := gw_i 439 (by decide +kernel) rfl
theorem w_ml_Lw_91 : (Cond.methodLink "GradientShardsLaw" (91 : Nat) ({ cls := "GradientShards", name := "unconfirmed", desc := "(II)I" } : Jvm.MethodName)) ∈ GW := gw_i 440 (by decide +kernel) rfl
theorem w_im_Gs_unconfirmed : (Cond.instanceMethod ({ cls := "GradientShards", name := "unconfirmed", desc := "(II)I" } : Jvm.MethodName)) ∈ GW := gw_i 441 (by decide +kernel) rfl
theorem w_se_Gs_unconfirmed : (Cond.selects "GradientShards" ({ cls := "GradientShards", name := "unconfirmed", desc := "(II)I" } : Jvm.MethodName) ({ cls := "GradientShards", name := "unconfirmed", desc := "(II)I" } : Jvm.MethodName)) ∈ GW := gw_i 442 (by decide +kernel) rfl
theorem w_cd_Gs_unconfirmed : (Cond.code ({ cls := "GradientShards", name := "unconfirmed", desc := "(II)I" } : Jvm.MethodName) prog_1_method_18_code (3 : Nat) (Option.some Jvm.ClassFile.FieldType.int)) ∈ GW := gw_i 443 (by decide +kernel) rfl
theorem w_im_Lk_unconfirmedNumber : (Cond.instanceMethod ({ cls := "GradientShards$Link", name := "unconfirmedNumber", desc := "()I" } : Jvm.MethodName)) ∈ GW := gw_i 446 (by decide +kernel) rfl
theorem w_cd_Lk_unconfirmedNumber : (Cond.code ({ cls := "GradientShards$Link", name := "unconfirmedNumber", desc := "()I" } : Jvm.MethodName) prog_2_method_4_code (1 : Nat) (Option.some Jvm.ClassFile.FieldType.int)) ∈ GW := gw_i 447 (by decide +kernel) rfl
theorem w_ml_Lw_95 : (Cond.methodLink "GradientShardsLaw" (95 : Nat) ({ cls := "GradientShards", name := "packets", desc := "()I" } : Jvm.MethodName)) ∈ GW := gw_i 448 (by decide +kernel) rfl
theorem w_im_Gs_packets : (Cond.instanceMethod ({ cls := "GradientShards", name := "packets", desc := "()I" } : Jvm.MethodName)) ∈ GW := gw_i 449 (by decide +kernel) rfl
theorem w_se_Gs_packets : (Cond.selects "GradientShards" ({ cls := "GradientShards", name := "packets", desc := "()I" } : Jvm.MethodName) ({ cls := "GradientShards", name := "packets", desc := "()I" } : Jvm.MethodName)) ∈ GW := gw_i 450 (by decide +kernel) rfl
theorem w_cd_Gs_packets : (Cond.code ({ cls := "GradientShards", name := "packets", desc := "()I" } : Jvm.MethodName) prog_1_method_19_code (1 : Nat) (Option.some Jvm.ClassFile.FieldType.int)) ∈ GW := gw_i 451 (by decide +kernel) rfl
theorem w_ml_Lw_99 : (Cond.methodLink "GradientShardsLaw" (99 : Nat) ({ cls := "GradientShards", name := "packet", desc := "(I)I" } : Jvm.MethodName)) ∈ GW := gw_i 452 (by decide +kernel) rfl
theorem w_im_Gs_packet : (Cond.instanceMethod ({ cls := "GradientShards", name := "packet", desc := "(I)I" } : Jvm.MethodName)) ∈ GW := gw_i 453 (by decide +kernel) rfl
theorem w_se_Gs_packet : (Cond.selects "GradientShards" ({ cls := "GradientShards", name := "packet", desc := "(I)I" } : Jvm.MethodName) ({ cls := "GradientShards", name := "packet", desc := "(I)I" } : Jvm.MethodName)) ∈ GW := gw_i 454 (by decide +kernel) rfl
theorem w_cd_Gs_packet : (Cond.code ({ cls := "GradientShards", name := "packet", desc := "(I)I" } : Jvm.MethodName) prog_1_method_20_code (2 : Nat) (Option.some Jvm.ClassFile.FieldType.int)) ∈ GW := gw_i 455 (by decide +kernel) rfl
theorem w_ml_Lw_103 : (Cond.methodLink "GradientShardsLaw" (103 : Nat) ({ cls := "GradientShards", name := "count", desc := "(I)I" } : Jvm.MethodName)) ∈ GW := gw_i 456 (by decide +kernel) rfl
theorem w_im_Gs_count : (Cond.instanceMethod ({ cls := "GradientShards", name := "count", desc := "(I)I" } : Jvm.MethodName)) ∈ GW := gw_i 457 (by decide +kernel) rfl
theorem w_se_Gs_count : (Cond.selects "GradientShards" ({ cls := "GradientShards", name := "count", desc := "(I)I" } : Jvm.MethodName) ({ cls := "GradientShards", name := "count", desc := "(I)I" } : Jvm.MethodName)) ∈ GW := gw_i 458 (by decide +kernel) rfl
theorem w_cd_Gs_count : (Cond.code ({ cls := "GradientShards", name := "count", desc := "(I)I" } : Jvm.MethodName) prog_1_method_21_code (2 : Nat) (Option.some Jvm.ClassFile.FieldType.int)) ∈ GW := gw_i 459 (by decide +kernel) rfl
theorem w_ml_Lw_9 : (Cond.methodLink "GradientShardsLaw" (9 : Nat) ({ cls := "GradientShardsLaw", name := "cell", desc := "([II)I" } : Jvm.MethodName)) ∈ GW := gw_i 460 (by decide +kernel) rfl
theorem w_st_Lw_cell : (Cond.static ({ cls := "GradientShardsLaw", name := "cell", desc := "([II)I" } : Jvm.MethodName)) ∈ GW := gw_i 461 (by decide +kernel) rfl
theorem w_cd_Lw_cell : (Cond.code ({ cls := "GradientShardsLaw", name := "cell", desc := "([II)I" } : Jvm.MethodName) method_2_code (2 : Nat) (Option.some Jvm.ClassFile.FieldType.int)) ∈ GW := gw_i 462 (by decide +kernel) rfl
theorem w_cl_Lw_18 : (Cond.classLink "GradientShardsLaw" (18 : Nat) "GradientShardsModel") ∈ GW := gw_i 463 (by decide +kernel) rfl
theorem w_is_Md : (Cond.instantiable "GradientShardsModel" (20 : Nat)) ∈ GW := gw_i 464 (by decide +kernel) rfl
theorem w_ml_Lw_20 : (Cond.methodLink "GradientShardsLaw" (20 : Nat) ({ cls := "GradientShardsModel", name := "<init>", desc := "(III)V" } : Jvm.MethodName)) ∈ GW := gw_i 465 (by decide +kernel) rfl
theorem w_im_Md_init : (Cond.instanceMethod ({ cls := "GradientShardsModel", name := "<init>", desc := "(III)V" } : Jvm.MethodName)) ∈ GW := gw_i 466 (by decide +kernel) rfl
theorem w_cd_Md_init : (Cond.code ({ cls := "GradientShardsModel", name := "<init>", desc := "(III)V" } : Jvm.MethodName) prog_6_method_1_code (4 : Nat) (Option.none : Option Jvm.ClassFile.FieldType)) ∈ GW := gw_i 467 (by decide +kernel) rfl
theorem w_ml_Md_1 : (Cond.methodLink "GradientShardsModel" (1 : Nat) ({ cls := "java/lang/Object", name := "<init>", desc := "()V" } : Jvm.MethodName)) ∈ GW := gw_i 468 (by decide +kernel) rfl
theorem w_fl_Md_50 : (Cond.fieldLink "GradientShardsModel" (50 : Nat) "GradientShardsModel" "workers" "I") ∈ GW := gw_i 469 (by decide +kernel) rfl
theorem w_fl_Md_54 : (Cond.fieldLink "GradientShardsModel" (54 : Nat) "GradientShardsModel" "slack" "I") ∈ GW := gw_i 470 (by decide +kernel) rfl
theorem w_fl_Md_57 : (Cond.fieldLink "GradientShardsModel" (57 : Nat) "GradientShardsModel" "rule" "I") ∈ GW := gw_i 471 (by decide +kernel) rfl
theorem w_fl_Md_63 : (Cond.fieldLink "GradientShardsModel" (63 : Nat) "GradientShardsModel" "time" "I") ∈ GW := gw_i 472 (by decide +kernel) rfl
theorem w_fl_Md_7 : (Cond.fieldLink "GradientShardsModel" (7 : Nat) "GradientShardsModel" "clocks" "[I") ∈ GW := gw_i 473 (by decide +kernel) rfl
theorem w_fl_Md_13 : (Cond.fieldLink "GradientShardsModel" (13 : Nat) "GradientShardsModel" "made" "[I") ∈ GW := gw_i 474 (by decide +kernel) rfl
theorem w_fl_Md_16 : (Cond.fieldLink "GradientShardsModel" (16 : Nat) "GradientShardsModel" "start" "[I") ∈ GW := gw_i 475 (by decide +kernel) rfl
theorem w_fl_Md_19 : (Cond.fieldLink "GradientShardsModel" (19 : Nat) "GradientShardsModel" "sure" "[I") ∈ GW := gw_i 476 (by decide +kernel) rfl
theorem w_fl_Md_22 : (Cond.fieldLink "GradientShardsModel" (22 : Nat) "GradientShardsModel" "what" "[I") ∈ GW := gw_i 477 (by decide +kernel) rfl
theorem w_fl_Md_25 : (Cond.fieldLink "GradientShardsModel" (25 : Nat) "GradientShardsModel" "taken" "[Z") ∈ GW := gw_i 478 (by decide +kernel) rfl
theorem w_fl_Md_29 : (Cond.fieldLink "GradientShardsModel" (29 : Nat) "GradientShardsModel" "sentAt" "[I") ∈ GW := gw_i 479 (by decide +kernel) rfl
theorem w_fl_Md_32 : (Cond.fieldLink "GradientShardsModel" (32 : Nat) "GradientShardsModel" "down" "[Z") ∈ GW := gw_i 480 (by decide +kernel) rfl
theorem w_fl_Md_35 : (Cond.fieldLink "GradientShardsModel" (35 : Nat) "GradientShardsModel" "checked" "[I") ∈ GW := gw_i 481 (by decide +kernel) rfl
theorem w_fl_Md_38 : (Cond.fieldLink "GradientShardsModel" (38 : Nat) "GradientShardsModel" "counts" "[I") ∈ GW := gw_i 482 (by decide +kernel) rfl
theorem w_fl_Md_60 : (Cond.fieldLink "GradientShardsModel" (60 : Nat) "GradientShardsModel" "held" "I") ∈ GW := gw_i 483 (by decide +kernel) rfl
theorem w_fl_Md_41 : (Cond.fieldLink "GradientShardsModel" (41 : Nat) "GradientShardsModel" "ack" "[Z") ∈ GW := gw_i 484 (by decide +kernel) rfl
theorem w_fl_Md_44 : (Cond.fieldLink "GradientShardsModel" (44 : Nat) "GradientShardsModel" "link" "[I") ∈ GW := gw_i 485 (by decide +kernel) rfl
theorem w_fl_Md_47 : (Cond.fieldLink "GradientShardsModel" (47 : Nat) "GradientShardsModel" "number" "[I") ∈ GW := gw_i 486 (by decide +kernel) rfl
theorem w_fl_Md_93 : (Cond.fieldLink "GradientShardsModel" (93 : Nat) "GradientShardsModel" "value" "I") ∈ GW := gw_i 487 (by decide +kernel) rfl
theorem w_fl_Md_96 : (Cond.fieldLink "GradientShardsModel" (96 : Nat) "GradientShardsModel" "memory" "I") ∈ GW := gw_i 488 (by decide +kernel) rfl
theorem w_ml_Lw_25 : (Cond.methodLink "GradientShardsLaw" (25 : Nat) ({ cls := "GradientShardsModel", name := "add", desc := "(III)Z" } : Jvm.MethodName)) ∈ GW := gw_i 530 (by decide +kernel) rfl
theorem w_im_Md_add : (Cond.instanceMethod ({ cls := "GradientShardsModel", name := "add", desc := "(III)Z" } : Jvm.MethodName)) ∈ GW := gw_i 531 (by decide +kernel) rfl
theorem w_se_Md_add : (Cond.selects "GradientShardsModel" ({ cls := "GradientShardsModel", name := "add", desc := "(III)Z" } : Jvm.MethodName) ({ cls := "GradientShardsModel", name := "add", desc := "(III)Z" } : Jvm.MethodName)) ∈ GW := gw_i 532 (by decide +kernel) rfl
theorem w_cd_Md_add : (Cond.code ({ cls := "GradientShardsModel", name := "add", desc := "(III)Z" } : Jvm.MethodName) prog_6_method_8_code (5 : Nat) (Option.some Jvm.ClassFile.FieldType.boolean)) ∈ GW := gw_i 533 (by decide +kernel) rfl
theorem w_ml_Md_70 : (Cond.methodLink "GradientShardsModel" (70 : Nat) ({ cls := "GradientShardsModel", name := "isWorker", desc := "(I)Z" } : Jvm.MethodName)) ∈ GW := gw_i 534 (by decide +kernel) rfl
theorem w_im_Md_isWorker : (Cond.instanceMethod ({ cls := "GradientShardsModel", name := "isWorker", desc := "(I)Z" } : Jvm.MethodName)) ∈ GW := gw_i 536 (by decide +kernel) rfl
theorem w_cd_Md_isWorker : (Cond.code ({ cls := "GradientShardsModel", name := "isWorker", desc := "(I)Z" } : Jvm.MethodName) prog_6_method_2_code (2 : Nat) (Option.some Jvm.ClassFile.FieldType.boolean)) ∈ GW := gw_i 537 (by decide +kernel) rfl
theorem w_ml_Md_74 : (Cond.methodLink "GradientShardsModel" (74 : Nat) ({ cls := "GradientShardsModel", name := "waits", desc := "(I)Z" } : Jvm.MethodName)) ∈ GW := gw_i 538 (by decide +kernel) rfl
theorem w_im_Md_waits : (Cond.instanceMethod ({ cls := "GradientShardsModel", name := "waits", desc := "(I)Z" } : Jvm.MethodName)) ∈ GW := gw_i 540 (by decide +kernel) rfl
theorem w_cd_Md_waits : (Cond.code ({ cls := "GradientShardsModel", name := "waits", desc := "(I)Z" } : Jvm.MethodName) prog_6_method_4_code (4 : Nat) (Option.some Jvm.ClassFile.FieldType.boolean)) ∈ GW := gw_i 541 (by decide +kernel) rfl
theorem w_ml_Md_77 : (Cond.methodLink "GradientShardsModel" (77 : Nat) ({ cls := "GradientShardsModel", name := "make", desc := "(II)V" } : Jvm.MethodName)) ∈ GW := gw_i 542 (by decide +kernel) rfl
theorem w_im_Md_make : (Cond.instanceMethod ({ cls := "GradientShardsModel", name := "make", desc := "(II)V" } : Jvm.MethodName)) ∈ GW := gw_i 544 (by decide +kernel) rfl
theorem w_cd_Md_make : (Cond.code ({ cls := "GradientShardsModel", name := "make", desc := "(II)V" } : Jvm.MethodName) prog_6_method_7_code (4 : Nat) (Option.none : Option Jvm.ClassFile.FieldType)) ∈ GW := gw_i 545 (by decide +kernel) rfl
theorem w_ml_Md_66 : (Cond.methodLink "GradientShardsModel" (66 : Nat) ({ cls := "GradientShardsModel", name := "send", desc := "(ZII)V" } : Jvm.MethodName)) ∈ GW := gw_i 546 (by decide +kernel) rfl
theorem w_im_Md_send : (Cond.instanceMethod ({ cls := "GradientShardsModel", name := "send", desc := "(ZII)V" } : Jvm.MethodName)) ∈ GW := gw_i 548 (by decide +kernel) rfl
theorem w_cd_Md_send : (Cond.code ({ cls := "GradientShardsModel", name := "send", desc := "(ZII)V" } : Jvm.MethodName) prog_6_method_5_code (4 : Nat) (Option.none : Option Jvm.ClassFile.FieldType)) ∈ GW := gw_i 549 (by decide +kernel) rfl
theorem w_ml_Lw_30 : (Cond.methodLink "GradientShardsLaw" (30 : Nat) ({ cls := "GradientShardsModel", name := "advance", desc := "(I)Z" } : Jvm.MethodName)) ∈ GW := gw_i 550 (by decide +kernel) rfl
theorem w_im_Md_advance : (Cond.instanceMethod ({ cls := "GradientShardsModel", name := "advance", desc := "(I)Z" } : Jvm.MethodName)) ∈ GW := gw_i 551 (by decide +kernel) rfl
theorem w_se_Md_advance : (Cond.selects "GradientShardsModel" ({ cls := "GradientShardsModel", name := "advance", desc := "(I)Z" } : Jvm.MethodName) ({ cls := "GradientShardsModel", name := "advance", desc := "(I)Z" } : Jvm.MethodName)) ∈ GW := gw_i 552 (by decide +kernel) rfl
theorem w_cd_Md_advance : (Cond.code ({ cls := "GradientShardsModel", name := "advance", desc := "(I)Z" } : Jvm.MethodName) prog_6_method_9_code (3 : Nat) (Option.some Jvm.ClassFile.FieldType.boolean)) ∈ GW := gw_i 553 (by decide +kernel) rfl
theorem w_co_Md_81 : (Cond.constant "GradientShardsModel" (81 : Nat) (1000000 : Int32)) ∈ GW := gw_i 554 (by decide +kernel) rfl
theorem w_ml_Lw_35 : (Cond.methodLink "GradientShardsLaw" (35 : Nat) ({ cls := "GradientShardsModel", name := "ready", desc := "(II)Z" } : Jvm.MethodName)) ∈ GW := gw_i 555 (by decide +kernel) rfl
theorem w_im_Md_ready : (Cond.instanceMethod ({ cls := "GradientShardsModel", name := "ready", desc := "(II)Z" } : Jvm.MethodName)) ∈ GW := gw_i 556 (by decide +kernel) rfl
theorem w_se_Md_ready : (Cond.selects "GradientShardsModel" ({ cls := "GradientShardsModel", name := "ready", desc := "(II)Z" } : Jvm.MethodName) ({ cls := "GradientShardsModel", name := "ready", desc := "(II)Z" } : Jvm.MethodName)) ∈ GW := gw_i 557 (by decide +kernel) rfl
theorem w_cd_Md_ready : (Cond.code ({ cls := "GradientShardsModel", name := "ready", desc := "(II)Z" } : Jvm.MethodName) prog_6_method_17_code (3 : Nat) (Option.some Jvm.ClassFile.FieldType.boolean)) ∈ GW := gw_i 558 (by decide +kernel) rfl
theorem w_ml_Md_106 : (Cond.methodLink "GradientShardsModel" (106 : Nat) ({ cls := "GradientShardsModel", name := "clocksDone", desc := "(I)I" } : Jvm.MethodName)) ∈ GW := gw_i 559 (by decide +kernel) rfl
theorem w_im_Md_clocksDone : (Cond.instanceMethod ({ cls := "GradientShardsModel", name := "clocksDone", desc := "(I)I" } : Jvm.MethodName)) ∈ GW := gw_i 561 (by decide +kernel) rfl
theorem w_cd_Md_clocksDone : (Cond.code ({ cls := "GradientShardsModel", name := "clocksDone", desc := "(I)I" } : Jvm.MethodName) prog_6_method_11_code (7 : Nat) (Option.some Jvm.ClassFile.FieldType.int)) ∈ GW := gw_i 562 (by decide +kernel) rfl
theorem w_ml_Md_82 : (Cond.methodLink "GradientShardsModel" (82 : Nat) ({ cls := "GradientShardsModel", name := "turn", desc := "(I)I" } : Jvm.MethodName)) ∈ GW := gw_i 563 (by decide +kernel) rfl
theorem w_im_Md_turn : (Cond.instanceMethod ({ cls := "GradientShardsModel", name := "turn", desc := "(I)I" } : Jvm.MethodName)) ∈ GW := gw_i 565 (by decide +kernel) rfl
theorem w_cd_Md_turn : (Cond.code ({ cls := "GradientShardsModel", name := "turn", desc := "(I)I" } : Jvm.MethodName) prog_6_method_10_code (3 : Nat) (Option.some Jvm.ClassFile.FieldType.int)) ∈ GW := gw_i 566 (by decide +kernel) rfl
theorem w_ml_Lw_40 : (Cond.methodLink "GradientShardsLaw" (40 : Nat) ({ cls := "GradientShardsModel", name := "pull", desc := "(II)I" } : Jvm.MethodName)) ∈ GW := gw_i 567 (by decide +kernel) rfl
theorem w_im_Md_pull : (Cond.instanceMethod ({ cls := "GradientShardsModel", name := "pull", desc := "(II)I" } : Jvm.MethodName)) ∈ GW := gw_i 568 (by decide +kernel) rfl
theorem w_se_Md_pull : (Cond.selects "GradientShardsModel" ({ cls := "GradientShardsModel", name := "pull", desc := "(II)I" } : Jvm.MethodName) ({ cls := "GradientShardsModel", name := "pull", desc := "(II)I" } : Jvm.MethodName)) ∈ GW := gw_i 569 (by decide +kernel) rfl
theorem w_cd_Md_pull : (Cond.code ({ cls := "GradientShardsModel", name := "pull", desc := "(II)I" } : Jvm.MethodName) prog_6_method_18_code (4 : Nat) (Option.some Jvm.ClassFile.FieldType.int)) ∈ GW := gw_i 570 (by decide +kernel) rfl
theorem w_ml_Md_109 : (Cond.methodLink "GradientShardsModel" (109 : Nat) ({ cls := "GradientShardsModel", name := "ready", desc := "(II)Z" } : Jvm.MethodName)) ∈ GW := gw_i 571 (by decide +kernel) rfl
theorem w_ml_Md_113 : (Cond.methodLink "GradientShardsModel" (113 : Nat) ({ cls := "GradientShardsModel", name := "workOut", desc := "(II)V" } : Jvm.MethodName)) ∈ GW := gw_i 572 (by decide +kernel) rfl
theorem w_im_Md_workOut : (Cond.instanceMethod ({ cls := "GradientShardsModel", name := "workOut", desc := "(II)V" } : Jvm.MethodName)) ∈ GW := gw_i 574 (by decide +kernel) rfl
theorem w_cd_Md_workOut : (Cond.code ({ cls := "GradientShardsModel", name := "workOut", desc := "(II)V" } : Jvm.MethodName) prog_6_method_16_code (7 : Nat) (Option.none : Option Jvm.ClassFile.FieldType)) ∈ GW := gw_i 575 (by decide +kernel) rfl
theorem w_ml_Md_99 : (Cond.methodLink "GradientShardsModel" (99 : Nat) ({ cls := "GradientShardsModel", name := "contribution", desc := "(III)I" } : Jvm.MethodName)) ∈ GW := gw_i 576 (by decide +kernel) rfl
theorem w_im_Md_contribution : (Cond.instanceMethod ({ cls := "GradientShardsModel", name := "contribution", desc := "(III)I" } : Jvm.MethodName)) ∈ GW := gw_i 578 (by decide +kernel) rfl
theorem w_cd_Md_contribution : (Cond.code ({ cls := "GradientShardsModel", name := "contribution", desc := "(III)I" } : Jvm.MethodName) prog_6_method_14_code (9 : Nat) (Option.some Jvm.ClassFile.FieldType.int)) ∈ GW := gw_i 579 (by decide +kernel) rfl
theorem w_ml_Md_86 : (Cond.methodLink "GradientShardsModel" (86 : Nat) ({ cls := "GradientShardsModel", name := "boundary", desc := "(II)I" } : Jvm.MethodName)) ∈ GW := gw_i 580 (by decide +kernel) rfl
theorem w_im_Md_boundary : (Cond.instanceMethod ({ cls := "GradientShardsModel", name := "boundary", desc := "(II)I" } : Jvm.MethodName)) ∈ GW := gw_i 582 (by decide +kernel) rfl
theorem w_cd_Md_boundary : (Cond.code ({ cls := "GradientShardsModel", name := "boundary", desc := "(II)I" } : Jvm.MethodName) prog_6_method_12_code (5 : Nat) (Option.some Jvm.ClassFile.FieldType.int)) ∈ GW := gw_i 583 (by decide +kernel) rfl
theorem w_ml_Md_90 : (Cond.methodLink "GradientShardsModel" (90 : Nat) ({ cls := "GradientShardsModel", name := "narrow", desc := "(I)I" } : Jvm.MethodName)) ∈ GW := gw_i 584 (by decide +kernel) rfl
theorem w_st_Md_narrow : (Cond.static ({ cls := "GradientShardsModel", name := "narrow", desc := "(I)I" } : Jvm.MethodName)) ∈ GW := gw_i 585 (by decide +kernel) rfl
theorem w_cd_Md_narrow : (Cond.code ({ cls := "GradientShardsModel", name := "narrow", desc := "(I)I" } : Jvm.MethodName) prog_6_method_13_code (1 : Nat) (Option.some Jvm.ClassFile.FieldType.int)) ∈ GW := gw_i 586 (by decide +kernel) rfl
theorem w_ml_Md_103 : (Cond.methodLink "GradientShardsModel" (103 : Nat) ({ cls := "GradientShardsModel", name := "root", desc := "(I)I" } : Jvm.MethodName)) ∈ GW := gw_i 587 (by decide +kernel) rfl
theorem w_st_Md_root : (Cond.static ({ cls := "GradientShardsModel", name := "root", desc := "(I)I" } : Jvm.MethodName)) ∈ GW := gw_i 588 (by decide +kernel) rfl
theorem w_cd_Md_root : (Cond.code ({ cls := "GradientShardsModel", name := "root", desc := "(I)I" } : Jvm.MethodName) prog_6_method_15_code (2 : Nat) (Option.some Jvm.ClassFile.FieldType.int)) ∈ GW := gw_i 589 (by decide +kernel) rfl
theorem w_ml_Lw_45 : (Cond.methodLink "GradientShardsLaw" (45 : Nat) ({ cls := "GradientShardsModel", name := "clock", desc := "(I)I" } : Jvm.MethodName)) ∈ GW := gw_i 590 (by decide +kernel) rfl
theorem w_im_Md_clock : (Cond.instanceMethod ({ cls := "GradientShardsModel", name := "clock", desc := "(I)I" } : Jvm.MethodName)) ∈ GW := gw_i 591 (by decide +kernel) rfl
theorem w_se_Md_clock : (Cond.selects "GradientShardsModel" ({ cls := "GradientShardsModel", name := "clock", desc := "(I)I" } : Jvm.MethodName) ({ cls := "GradientShardsModel", name := "clock", desc := "(I)I" } : Jvm.MethodName)) ∈ GW := gw_i 592 (by decide +kernel) rfl
theorem w_cd_Md_clock : (Cond.code ({ cls := "GradientShardsModel", name := "clock", desc := "(I)I" } : Jvm.MethodName) prog_6_method_19_code (2 : Nat) (Option.some Jvm.ClassFile.FieldType.int)) ∈ GW := gw_i 593 (by decide +kernel) rfl
theorem w_ml_Lw_49 : (Cond.methodLink "GradientShardsLaw" (49 : Nat) ({ cls := "GradientShardsModel", name := "deliver", desc := "(I)I" } : Jvm.MethodName)) ∈ GW := gw_i 594 (by decide +kernel) rfl
theorem w_im_Md_deliver : (Cond.instanceMethod ({ cls := "GradientShardsModel", name := "deliver", desc := "(I)I" } : Jvm.MethodName)) ∈ GW := gw_i 595 (by decide +kernel) rfl
theorem w_se_Md_deliver : (Cond.selects "GradientShardsModel" ({ cls := "GradientShardsModel", name := "deliver", desc := "(I)I" } : Jvm.MethodName) ({ cls := "GradientShardsModel", name := "deliver", desc := "(I)I" } : Jvm.MethodName)) ∈ GW := gw_i 596 (by decide +kernel) rfl
theorem w_cd_Md_deliver : (Cond.code ({ cls := "GradientShardsModel", name := "deliver", desc := "(I)I" } : Jvm.MethodName) prog_6_method_20_code (7 : Nat) (Option.some Jvm.ClassFile.FieldType.int)) ∈ GW := gw_i 597 (by decide +kernel) rfl
theorem w_ml_Md_116 : (Cond.methodLink "GradientShardsModel" (116 : Nat) ({ cls := "GradientShardsModel", name := "remove", desc := "(I)V" } : Jvm.MethodName)) ∈ GW := gw_i 598 (by decide +kernel) rfl
theorem w_im_Md_remove : (Cond.instanceMethod ({ cls := "GradientShardsModel", name := "remove", desc := "(I)V" } : Jvm.MethodName)) ∈ GW := gw_i 600 (by decide +kernel) rfl
theorem w_cd_Md_remove : (Cond.code ({ cls := "GradientShardsModel", name := "remove", desc := "(I)V" } : Jvm.MethodName) prog_6_method_6_code (3 : Nat) (Option.none : Option Jvm.ClassFile.FieldType)) ∈ GW := gw_i 601 (by decide +kernel) rfl
theorem w_ml_Lw_53 : (Cond.methodLink "GradientShardsLaw" (53 : Nat) ({ cls := "GradientShardsModel", name := "drop", desc := "(I)Z" } : Jvm.MethodName)) ∈ GW := gw_i 602 (by decide +kernel) rfl
theorem w_im_Md_drop : (Cond.instanceMethod ({ cls := "GradientShardsModel", name := "drop", desc := "(I)Z" } : Jvm.MethodName)) ∈ GW := gw_i 603 (by decide +kernel) rfl
theorem w_se_Md_drop : (Cond.selects "GradientShardsModel" ({ cls := "GradientShardsModel", name := "drop", desc := "(I)Z" } : Jvm.MethodName) ({ cls := "GradientShardsModel", name := "drop", desc := "(I)Z" } : Jvm.MethodName)) ∈ GW := gw_i 604 (by decide +kernel) rfl
theorem w_cd_Md_drop : (Cond.code ({ cls := "GradientShardsModel", name := "drop", desc := "(I)Z" } : Jvm.MethodName) prog_6_method_21_code (2 : Nat) (Option.some Jvm.ClassFile.FieldType.boolean)) ∈ GW := gw_i 605 (by decide +kernel) rfl
theorem w_ml_Lw_57 : (Cond.methodLink "GradientShardsLaw" (57 : Nat) ({ cls := "GradientShardsModel", name := "copy", desc := "(I)Z" } : Jvm.MethodName)) ∈ GW := gw_i 606 (by decide +kernel) rfl
theorem w_im_Md_copy : (Cond.instanceMethod ({ cls := "GradientShardsModel", name := "copy", desc := "(I)Z" } : Jvm.MethodName)) ∈ GW := gw_i 607 (by decide +kernel) rfl
theorem w_se_Md_copy : (Cond.selects "GradientShardsModel" ({ cls := "GradientShardsModel", name := "copy", desc := "(I)Z" } : Jvm.MethodName) ({ cls := "GradientShardsModel", name := "copy", desc := "(I)Z" } : Jvm.MethodName)) ∈ GW := gw_i 608 (by decide +kernel) rfl
theorem w_cd_Md_copy : (Cond.code ({ cls := "GradientShardsModel", name := "copy", desc := "(I)Z" } : Jvm.MethodName) prog_6_method_22_code (2 : Nat) (Option.some Jvm.ClassFile.FieldType.boolean)) ∈ GW := gw_i 609 (by decide +kernel) rfl
theorem w_ml_Lw_62 : (Cond.methodLink "GradientShardsLaw" (62 : Nat) ({ cls := "GradientShardsModel", name := "tick", desc := "()I" } : Jvm.MethodName)) ∈ GW := gw_i 610 (by decide +kernel) rfl
theorem w_im_Md_tick : (Cond.instanceMethod ({ cls := "GradientShardsModel", name := "tick", desc := "()I" } : Jvm.MethodName)) ∈ GW := gw_i 611 (by decide +kernel) rfl
theorem w_se_Md_tick : (Cond.selects "GradientShardsModel" ({ cls := "GradientShardsModel", name := "tick", desc := "()I" } : Jvm.MethodName) ({ cls := "GradientShardsModel", name := "tick", desc := "()I" } : Jvm.MethodName)) ∈ GW := gw_i 612 (by decide +kernel) rfl
theorem w_cd_Md_tick : (Cond.code ({ cls := "GradientShardsModel", name := "tick", desc := "()I" } : Jvm.MethodName) prog_6_method_23_code (4 : Nat) (Option.some Jvm.ClassFile.FieldType.int)) ∈ GW := gw_i 613 (by decide +kernel) rfl
theorem w_ml_Lw_66 : (Cond.methodLink "GradientShardsLaw" (66 : Nat) ({ cls := "GradientShardsModel", name := "run", desc := "(I)I" } : Jvm.MethodName)) ∈ GW := gw_i 614 (by decide +kernel) rfl
theorem w_im_Md_run : (Cond.instanceMethod ({ cls := "GradientShardsModel", name := "run", desc := "(I)I" } : Jvm.MethodName)) ∈ GW := gw_i 615 (by decide +kernel) rfl
theorem w_se_Md_run : (Cond.selects "GradientShardsModel" ({ cls := "GradientShardsModel", name := "run", desc := "(I)I" } : Jvm.MethodName) ({ cls := "GradientShardsModel", name := "run", desc := "(I)I" } : Jvm.MethodName)) ∈ GW := gw_i 616 (by decide +kernel) rfl
theorem w_cd_Md_run : (Cond.code ({ cls := "GradientShardsModel", name := "run", desc := "(I)I" } : Jvm.MethodName) prog_6_method_24_code (4 : Nat) (Option.some Jvm.ClassFile.FieldType.int)) ∈ GW := gw_i 617 (by decide +kernel) rfl
theorem w_ml_Md_120 : (Cond.methodLink "GradientShardsModel" (120 : Nat) ({ cls := "GradientShardsModel", name := "deliver", desc := "(I)I" } : Jvm.MethodName)) ∈ GW := gw_i 618 (by decide +kernel) rfl
theorem w_ml_Md_123 : (Cond.methodLink "GradientShardsModel" (123 : Nat) ({ cls := "GradientShardsModel", name := "tick", desc := "()I" } : Jvm.MethodName)) ∈ GW := gw_i 619 (by decide +kernel) rfl
theorem w_ml_Lw_70 : (Cond.methodLink "GradientShardsLaw" (70 : Nat) ({ cls := "GradientShardsModel", name := "kill", desc := "(I)Z" } : Jvm.MethodName)) ∈ GW := gw_i 620 (by decide +kernel) rfl
theorem w_im_Md_kill : (Cond.instanceMethod ({ cls := "GradientShardsModel", name := "kill", desc := "(I)Z" } : Jvm.MethodName)) ∈ GW := gw_i 621 (by decide +kernel) rfl
theorem w_se_Md_kill : (Cond.selects "GradientShardsModel" ({ cls := "GradientShardsModel", name := "kill", desc := "(I)Z" } : Jvm.MethodName) ({ cls := "GradientShardsModel", name := "kill", desc := "(I)Z" } : Jvm.MethodName)) ∈ GW := gw_i 622 (by decide +kernel) rfl
theorem w_cd_Md_kill : (Cond.code ({ cls := "GradientShardsModel", name := "kill", desc := "(I)Z" } : Jvm.MethodName) prog_6_method_26_code (3 : Nat) (Option.some Jvm.ClassFile.FieldType.boolean)) ∈ GW := gw_i 623 (by decide +kernel) rfl
theorem w_ml_Md_127 : (Cond.methodLink "GradientShardsModel" (127 : Nat) ({ cls := "GradientShardsModel", name := "isShard", desc := "(I)Z" } : Jvm.MethodName)) ∈ GW := gw_i 624 (by decide +kernel) rfl
theorem w_st_Md_isShard : (Cond.static ({ cls := "GradientShardsModel", name := "isShard", desc := "(I)Z" } : Jvm.MethodName)) ∈ GW := gw_i 625 (by decide +kernel) rfl
theorem w_cd_Md_isShard : (Cond.code ({ cls := "GradientShardsModel", name := "isShard", desc := "(I)Z" } : Jvm.MethodName) prog_6_method_3_code (1 : Nat) (Option.some Jvm.ClassFile.FieldType.boolean)) ∈ GW := gw_i 626 (by decide +kernel) rfl
theorem w_ml_Md_130 : (Cond.methodLink "GradientShardsModel" (130 : Nat) ({ cls := "GradientShardsModel", name := "takeBefore", desc := "(II)V" } : Jvm.MethodName)) ∈ GW := gw_i 627 (by decide +kernel) rfl
theorem w_im_Md_takeBefore : (Cond.instanceMethod ({ cls := "GradientShardsModel", name := "takeBefore", desc := "(II)V" } : Jvm.MethodName)) ∈ GW := gw_i 629 (by decide +kernel) rfl
theorem w_cd_Md_takeBefore : (Cond.code ({ cls := "GradientShardsModel", name := "takeBefore", desc := "(II)V" } : Jvm.MethodName) prog_6_method_25_code (7 : Nat) (Option.none : Option Jvm.ClassFile.FieldType)) ∈ GW := gw_i 630 (by decide +kernel) rfl
theorem w_ml_Lw_74 : (Cond.methodLink "GradientShardsLaw" (74 : Nat) ({ cls := "GradientShardsModel", name := "recover", desc := "(I)Z" } : Jvm.MethodName)) ∈ GW := gw_i 631 (by decide +kernel) rfl
theorem w_im_Md_recover : (Cond.instanceMethod ({ cls := "GradientShardsModel", name := "recover", desc := "(I)Z" } : Jvm.MethodName)) ∈ GW := gw_i 632 (by decide +kernel) rfl
theorem w_se_Md_recover : (Cond.selects "GradientShardsModel" ({ cls := "GradientShardsModel", name := "recover", desc := "(I)Z" } : Jvm.MethodName) ({ cls := "GradientShardsModel", name := "recover", desc := "(I)Z" } : Jvm.MethodName)) ∈ GW := gw_i 633 (by decide +kernel) rfl
theorem w_cd_Md_recover : (Cond.code ({ cls := "GradientShardsModel", name := "recover", desc := "(I)Z" } : Jvm.MethodName) prog_6_method_27_code (3 : Nat) (Option.some Jvm.ClassFile.FieldType.boolean)) ∈ GW := gw_i 634 (by decide +kernel) rfl
theorem w_ml_Lw_78 : (Cond.methodLink "GradientShardsLaw" (78 : Nat) ({ cls := "GradientShardsModel", name := "checkpoint", desc := "(I)I" } : Jvm.MethodName)) ∈ GW := gw_i 635 (by decide +kernel) rfl
theorem w_im_Md_checkpoint : (Cond.instanceMethod ({ cls := "GradientShardsModel", name := "checkpoint", desc := "(I)I" } : Jvm.MethodName)) ∈ GW := gw_i 636 (by decide +kernel) rfl
theorem w_se_Md_checkpoint : (Cond.selects "GradientShardsModel" ({ cls := "GradientShardsModel", name := "checkpoint", desc := "(I)I" } : Jvm.MethodName) ({ cls := "GradientShardsModel", name := "checkpoint", desc := "(I)I" } : Jvm.MethodName)) ∈ GW := gw_i 637 (by decide +kernel) rfl
theorem w_cd_Md_checkpoint : (Cond.code ({ cls := "GradientShardsModel", name := "checkpoint", desc := "(I)I" } : Jvm.MethodName) prog_6_method_28_code (6 : Nat) (Option.some Jvm.ClassFile.FieldType.int)) ∈ GW := gw_i 638 (by decide +kernel) rfl
theorem w_ml_Lw_82 : (Cond.methodLink "GradientShardsLaw" (82 : Nat) ({ cls := "GradientShardsModel", name := "done", desc := "(I)I" } : Jvm.MethodName)) ∈ GW := gw_i 639 (by decide +kernel) rfl
theorem w_im_Md_done : (Cond.instanceMethod ({ cls := "GradientShardsModel", name := "done", desc := "(I)I" } : Jvm.MethodName)) ∈ GW := gw_i 640 (by decide +kernel) rfl
theorem w_se_Md_done : (Cond.selects "GradientShardsModel" ({ cls := "GradientShardsModel", name := "done", desc := "(I)I" } : Jvm.MethodName) ({ cls := "GradientShardsModel", name := "done", desc := "(I)I" } : Jvm.MethodName)) ∈ GW := gw_i 641 (by decide +kernel) rfl
theorem w_cd_Md_done : (Cond.code ({ cls := "GradientShardsModel", name := "done", desc := "(I)I" } : Jvm.MethodName) prog_6_method_29_code (2 : Nat) (Option.some Jvm.ClassFile.FieldType.int)) ∈ GW := gw_i 642 (by decide +kernel) rfl
theorem w_ml_Lw_86 : (Cond.methodLink "GradientShardsLaw" (86 : Nat) ({ cls := "GradientShardsModel", name := "early", desc := "(I)I" } : Jvm.MethodName)) ∈ GW := gw_i 643 (by decide +kernel) rfl
theorem w_im_Md_early : (Cond.instanceMethod ({ cls := "GradientShardsModel", name := "early", desc := "(I)I" } : Jvm.MethodName)) ∈ GW := gw_i 644 (by decide +kernel) rfl
theorem w_se_Md_early : (Cond.selects "GradientShardsModel" ({ cls := "GradientShardsModel", name := "early", desc := "(I)I" } : Jvm.MethodName) ({ cls := "GradientShardsModel", name := "early", desc := "(I)I" } : Jvm.MethodName)) ∈ GW := gw_i 645 (by decide +kernel) rfl
theorem w_cd_Md_early : (Cond.code ({ cls := "GradientShardsModel", name := "early", desc := "(I)I" } : Jvm.MethodName) prog_6_method_30_code (7 : Nat) (Option.some Jvm.ClassFile.FieldType.int)) ∈ GW := gw_i 646 (by decide +kernel) rfl
theorem w_ml_Lw_90 : (Cond.methodLink "GradientShardsLaw" (90 : Nat) ({ cls := "GradientShardsModel", name := "kept", desc := "(II)I" } : Jvm.MethodName)) ∈ GW := gw_i 647 (by decide +kernel) rfl
theorem w_im_Md_kept : (Cond.instanceMethod ({ cls := "GradientShardsModel", name := "kept", desc := "(II)I" } : Jvm.MethodName)) ∈ GW := gw_i 648 (by decide +kernel) rfl
theorem w_se_Md_kept : (Cond.selects "GradientShardsModel" ({ cls := "GradientShardsModel", name := "kept", desc := "(II)I" } : Jvm.MethodName) ({ cls := "GradientShardsModel", name := "kept", desc := "(II)I" } : Jvm.MethodName)) ∈ GW := gw_i 649 (by decide +kernel) rfl
theorem w_cd_Md_kept : (Cond.code ({ cls := "GradientShardsModel", name := "kept", desc := "(II)I" } : Jvm.MethodName) prog_6_method_31_code (3 : Nat) (Option.some Jvm.ClassFile.FieldType.int)) ∈ GW := gw_i 650 (by decide +kernel) rfl
theorem w_ml_Lw_94 : (Cond.methodLink "GradientShardsLaw" (94 : Nat) ({ cls := "GradientShardsModel", name := "unconfirmed", desc := "(II)I" } : Jvm.MethodName)) ∈ GW := gw_i 651 (by decide +kernel) rfl
theorem w_im_Md_unconfirmed : (Cond.instanceMethod ({ cls := "GradientShardsModel", name := "unconfirmed", desc := "(II)I" } : Jvm.MethodName)) ∈ GW := gw_i 652 (by decide +kernel) rfl
theorem w_se_Md_unconfirmed : (Cond.selects "GradientShardsModel" ({ cls := "GradientShardsModel", name := "unconfirmed", desc := "(II)I" } : Jvm.MethodName) ({ cls := "GradientShardsModel", name := "unconfirmed", desc := "(II)I" } : Jvm.MethodName)) ∈ GW := gw_i 653 (by decide +kernel) rfl
theorem w_cd_Md_unconfirmed : (Cond.code ({ cls := "GradientShardsModel", name := "unconfirmed", desc := "(II)I" } : Jvm.MethodName) prog_6_method_32_code (3 : Nat) (Option.some Jvm.ClassFile.FieldType.int)) ∈ GW := gw_i 654 (by decide +kernel) rfl
theorem w_ml_Lw_98 : (Cond.methodLink "GradientShardsLaw" (98 : Nat) ({ cls := "GradientShardsModel", name := "packets", desc := "()I" } : Jvm.MethodName)) ∈ GW := gw_i 655 (by decide +kernel) rfl
theorem w_im_Md_packets : (Cond.instanceMethod ({ cls := "GradientShardsModel", name := "packets", desc := "()I" } : Jvm.MethodName)) ∈ GW := gw_i 656 (by decide +kernel) rfl
theorem w_se_Md_packets : (Cond.selects "GradientShardsModel" ({ cls := "GradientShardsModel", name := "packets", desc := "()I" } : Jvm.MethodName) ({ cls := "GradientShardsModel", name := "packets", desc := "()I" } : Jvm.MethodName)) ∈ GW := gw_i 657 (by decide +kernel) rfl
theorem w_cd_Md_packets : (Cond.code ({ cls := "GradientShardsModel", name := "packets", desc := "()I" } : Jvm.MethodName) prog_6_method_33_code (1 : Nat) (Option.some Jvm.ClassFile.FieldType.int)) ∈ GW := gw_i 658 (by decide +kernel) rfl
theorem w_ml_Lw_102 : (Cond.methodLink "GradientShardsLaw" (102 : Nat) ({ cls := "GradientShardsModel", name := "packet", desc := "(I)I" } : Jvm.MethodName)) ∈ GW := gw_i 659 (by decide +kernel) rfl
theorem w_im_Md_packet : (Cond.instanceMethod ({ cls := "GradientShardsModel", name := "packet", desc := "(I)I" } : Jvm.MethodName)) ∈ GW := gw_i 660 (by decide +kernel) rfl
theorem w_se_Md_packet : (Cond.selects "GradientShardsModel" ({ cls := "GradientShardsModel", name := "packet", desc := "(I)I" } : Jvm.MethodName) ({ cls := "GradientShardsModel", name := "packet", desc := "(I)I" } : Jvm.MethodName)) ∈ GW := gw_i 661 (by decide +kernel) rfl
theorem w_cd_Md_packet : (Cond.code ({ cls := "GradientShardsModel", name := "packet", desc := "(I)I" } : Jvm.MethodName) prog_6_method_34_code (2 : Nat) (Option.some Jvm.ClassFile.FieldType.int)) ∈ GW := gw_i 662 (by decide +kernel) rfl
theorem w_ml_Lw_106 : (Cond.methodLink "GradientShardsLaw" (106 : Nat) ({ cls := "GradientShardsModel", name := "count", desc := "(I)I" } : Jvm.MethodName)) ∈ GW := gw_i 663 (by decide +kernel) rfl
theorem w_im_Md_count : (Cond.instanceMethod ({ cls := "GradientShardsModel", name := "count", desc := "(I)I" } : Jvm.MethodName)) ∈ GW := gw_i 664 (by decide +kernel) rfl
theorem w_se_Md_count : (Cond.selects "GradientShardsModel" ({ cls := "GradientShardsModel", name := "count", desc := "(I)I" } : Jvm.MethodName) ({ cls := "GradientShardsModel", name := "count", desc := "(I)I" } : Jvm.MethodName)) ∈ GW := gw_i 665 (by decide +kernel) rfl
theorem w_cd_Md_count : (Cond.code ({ cls := "GradientShardsModel", name := "count", desc := "(I)I" } : Jvm.MethodName) prog_6_method_35_code (2 : Nat) (Option.some Jvm.ClassFile.FieldType.int)) ∈ GW := gw_i 666 (by decide +kernel) rfl
theorem w_se_Gs_isWorker : Cond.selects "GradientShards" y_Gs_isWorker y_Gs_isWorker ∈ GW := gw_i 0 (by decide +kernel) rfl
theorem w_se_Gs_isHeld : Cond.selects "GradientShards" y_Gs_isHeld y_Gs_isHeld ∈ GW := gw_i 1 (by decide +kernel) rfl
theorem w_se_Gs_linkOf : Cond.selects "GradientShards" y_Gs_linkOf y_Gs_linkOf ∈ GW := gw_i 2 (by decide +kernel) rfl
theorem w_se_Lk_keptNumber : Cond.selects "GradientShards$Link" y_Lk_keptNumber y_Lk_keptNumber ∈ GW := gw_i 3 (by decide +kernel) rfl
theorem w_se_Gs_makeMessage : Cond.selects "GradientShards" y_Gs_makeMessage y_Gs_makeMessage ∈ GW := gw_i 4 (by decide +kernel) rfl
theorem w_se_Lk_append : Cond.selects "GradientShards$Link" y_Lk_append y_Lk_append ∈ GW := gw_i 5 (by decide +kernel) rfl
theorem w_se_Gs_sendMessage : Cond.selects "GradientShards" y_Gs_sendMessage y_Gs_sendMessage ∈ GW := gw_i 6 (by decide +kernel) rfl
theorem w_se_Lk_noteSending : Cond.selects "GradientShards$Link" y_Lk_noteSending y_Lk_noteSending ∈ GW := gw_i 7 (by decide +kernel) rfl
theorem w_se_Nt_send : Cond.selects "GradientShards$Net" y_Nt_send y_Nt_send ∈ GW := gw_i 8 (by decide +kernel) rfl
theorem w_se_Nt_isFull : Cond.selects "GradientShards$Net" y_Nt_isFull y_Nt_isFull ∈ GW := gw_i 9 (by decide +kernel) rfl
theorem w_se_Gs_keepsTooManyToEnd : Cond.selects "GradientShards" y_Gs_keepsTooManyToEnd y_Gs_keepsTooManyToEnd ∈ GW := gw_i 10 (by decide +kernel) rfl
theorem w_se_Nt_holds : Cond.selects "GradientShards$Net" y_Nt_holds y_Nt_holds ∈ GW := gw_i 11 (by decide +kernel) rfl
theorem w_se_Nt_remove : Cond.selects "GradientShards$Net" y_Nt_remove y_Nt_remove ∈ GW := gw_i 12 (by decide +kernel) rfl
theorem w_se_Lk_confirm : Cond.selects "GradientShards$Link" y_Lk_confirm y_Lk_confirm ∈ GW := gw_i 13 (by decide +kernel) rfl
theorem w_se_Gs_arrive : Cond.selects "GradientShards" y_Gs_arrive y_Gs_arrive ∈ GW := gw_i 14 (by decide +kernel) rfl
theorem w_se_Lk_hasTaken : Cond.selects "GradientShards$Link" y_Lk_hasTaken y_Lk_hasTaken ∈ GW := gw_i 15 (by decide +kernel) rfl
theorem w_se_Lk_take : Cond.selects "GradientShards$Link" y_Lk_take y_Lk_take ∈ GW := gw_i 16 (by decide +kernel) rfl
theorem w_se_Sh_applyEndedClocks : Cond.selects "GradientShards$Shard" y_Sh_applyEndedClocks y_Sh_applyEndedClocks ∈ GW := gw_i 17 (by decide +kernel) rfl
theorem w_se_Sh_leastEndsHandled : Cond.selects "GradientShards$Shard" y_Sh_leastEndsHandled y_Sh_leastEndsHandled ∈ GW := gw_i 18 (by decide +kernel) rfl
theorem w_se_Sh_sumOfContributions : Cond.selects "GradientShards$Shard" y_Sh_sumOfContributions y_Sh_sumOfContributions ∈ GW := gw_i 19 (by decide +kernel) rfl
theorem w_se_Lk_contribution : Cond.selects "GradientShards$Link" y_Lk_contribution y_Lk_contribution ∈ GW := gw_i 20 (by decide +kernel) rfl
theorem w_se_Sh_applySum : Cond.selects "GradientShards$Shard" y_Sh_applySum y_Sh_applySum ∈ GW := gw_i 21 (by decide +kernel) rfl
theorem w_se_Lk_moveBoundaryBehindNextEnd : Cond.selects "GradientShards$Link" y_Lk_moveBoundaryBehindNextEnd y_Lk_moveBoundaryBehindNextEnd ∈ GW := gw_i 22 (by decide +kernel) rfl
theorem w_se_Lk_isDueAgain : Cond.selects "GradientShards$Link" y_Lk_isDueAgain y_Lk_isDueAgain ∈ GW := gw_i 23 (by decide +kernel) rfl
theorem w_se_Gs_isUp : Cond.selects "GradientShards" y_Gs_isUp y_Gs_isUp ∈ GW := gw_i 24 (by decide +kernel) rfl
theorem w_se_Nt_removeAllOf : Cond.selects "GradientShards$Net" y_Nt_removeAllOf y_Nt_removeAllOf ∈ GW := gw_i 25 (by decide +kernel) rfl
theorem w_se_Sh_goBackToCheckpoint : Cond.selects "GradientShards$Shard" y_Sh_goBackToCheckpoint y_Sh_goBackToCheckpoint ∈ GW := gw_i 26 (by decide +kernel) rfl
theorem w_se_Lk_goBackToStart : Cond.selects "GradientShards$Link" y_Lk_goBackToStart y_Lk_goBackToStart ∈ GW := gw_i 27 (by decide +kernel) rfl
theorem w_se_Sh_makeCheckpoint : Cond.selects "GradientShards$Shard" y_Sh_makeCheckpoint y_Sh_makeCheckpoint ∈ GW := gw_i 28 (by decide +kernel) rfl
theorem w_se_Lk_keepFromBoundary : Cond.selects "GradientShards$Link" y_Lk_keepFromBoundary y_Lk_keepFromBoundary ∈ GW := gw_i 29 (by decide +kernel) rfl
theorem w_se_Sh_earlyNumber : Cond.selects "GradientShards$Shard" y_Sh_earlyNumber y_Sh_earlyNumber ∈ GW := gw_i 30 (by decide +kernel) rfl
theorem w_se_Lk_earlyNumber : Cond.selects "GradientShards$Link" y_Lk_earlyNumber y_Lk_earlyNumber ∈ GW := gw_i 31 (by decide +kernel) rfl
theorem w_se_Lk_unconfirmedNumber : Cond.selects "GradientShards$Link" y_Lk_unconfirmedNumber y_Lk_unconfirmedNumber ∈ GW := gw_i 32 (by decide +kernel) rfl
theorem w_se_Md_isWorker : Cond.selects "GradientShardsModel" y_Md_isWorker y_Md_isWorker ∈ GW := gw_i 33 (by decide +kernel) rfl
theorem w_se_Md_waits : Cond.selects "GradientShardsModel" y_Md_waits y_Md_waits ∈ GW := gw_i 34 (by decide +kernel) rfl
theorem w_se_Md_make : Cond.selects "GradientShardsModel" y_Md_make y_Md_make ∈ GW := gw_i 35 (by decide +kernel) rfl
theorem w_se_Md_send : Cond.selects "GradientShardsModel" y_Md_send y_Md_send ∈ GW := gw_i 36 (by decide +kernel) rfl
theorem w_se_Md_clocksDone : Cond.selects "GradientShardsModel" y_Md_clocksDone y_Md_clocksDone ∈ GW := gw_i 37 (by decide +kernel) rfl
theorem w_se_Md_turn : Cond.selects "GradientShardsModel" y_Md_turn y_Md_turn ∈ GW := gw_i 38 (by decide +kernel) rfl
theorem w_se_Md_workOut : Cond.selects "GradientShardsModel" y_Md_workOut y_Md_workOut ∈ GW := gw_i 39 (by decide +kernel) rfl
theorem w_se_Md_contribution : Cond.selects "GradientShardsModel" y_Md_contribution y_Md_contribution ∈ GW := gw_i 40 (by decide +kernel) rfl
theorem w_se_Md_boundary : Cond.selects "GradientShardsModel" y_Md_boundary y_Md_boundary ∈ GW := gw_i 41 (by decide +kernel) rfl
theorem w_se_Md_remove : Cond.selects "GradientShardsModel" y_Md_remove y_Md_remove ∈ GW := gw_i 42 (by decide +kernel) rfl
theorem w_se_Md_takeBefore : Cond.selects "GradientShardsModel" y_Md_takeBefore y_Md_takeBefore ∈ GW := gw_i 43 (by decide +kernel) rfl
def NF : List (String × Nat × String × String × String × String) := [("GradientShards$Net", 15, "GradientShards$Link", "worker", "I", "GradientShards"), ("GradientShards$Net", 21, "GradientShards$Link", "shard", "I", "GradientShards"), ("GradientShards", 121, "GradientShards$Link", "confirmed", "I", "GradientShards"), ("GradientShards", 202, "GradientShards$Link", "turn", "I", "GradientShards"), ("GradientShards$Shard", 45, "GradientShards$Link", "endsHandled", "I", "GradientShards"), ("GradientShards", 88, "GradientShards$Shard", "links", "[LGradientShards$Link;", "GradientShards"), ("GradientShards", 71, "GradientShards$Shard", "values", "[I", "GradientShards"), ("GradientShards", 64, "GradientShards$Shard", "clocksDone", "I", "GradientShards"), ("GradientShards", 60, "GradientShards$Shard", "up", "Z", "GradientShards"), ("GradientShards", 77, "GradientShards$Net", "codes", "[I", "GradientShards"), ("GradientShards", 131, "GradientShards$Net", "size", "I", "GradientShards"), ("GradientShards", 167, "GradientShards$Net", "sent", "I", "GradientShards"), ("GradientShards", 170, "GradientShards$Net", "lost", "I", "GradientShards")]
def NM : List (String × Nat × MethodName × String) := [("GradientShards", 23, ⟨"GradientShards$Shard", "<init>", "(III)V"⟩, "GradientShards"), ("GradientShards$Shard", 38, ⟨"GradientShards$Link", "<init>", "(II)V"⟩, "GradientShards"), ("GradientShards", 28, ⟨"GradientShards$Net", "<init>", "()V"⟩, "GradientShards"), ("GradientShards", 47, ⟨"GradientShards$Link", "keptNumber", "()I"⟩, "GradientShards"), ("GradientShards", 182, ⟨"GradientShards$Link", "append", "(II)I"⟩, "GradientShards"), ("GradientShards", 185, ⟨"GradientShards$Link", "noteSending", "(II)V"⟩, "GradientShards"), ("GradientShards", 189, ⟨"GradientShards$Net", "codeOf", "(ILGradientShards$Link;I)I"⟩, "GradientShards"), ("GradientShards", 112, ⟨"GradientShards$Net", "send", "(I)V"⟩, "GradientShards"), ("GradientShards", 74, ⟨"GradientShards$Net", "holds", "(I)Z"⟩, "GradientShards"), ("GradientShards", 80, ⟨"GradientShards$Net", "remove", "(I)V"⟩, "GradientShards"), ("GradientShards", 84, ⟨"GradientShards$Net", "shardOf", "(I)I"⟩, "GradientShards"), ("GradientShards", 92, ⟨"GradientShards$Net", "workerOf", "(I)I"⟩, "GradientShards"), ("GradientShards", 95, ⟨"GradientShards$Net", "kindOf", "(I)I"⟩, "GradientShards"), ("GradientShards", 98, ⟨"GradientShards$Net", "numberOf", "(I)I"⟩, "GradientShards"), ("GradientShards", 101, ⟨"GradientShards$Link", "confirm", "(I)Z"⟩, "GradientShards"), ("GradientShards", 193, ⟨"GradientShards$Link", "hasTaken", "(I)Z"⟩, "GradientShards"), ("GradientShards", 196, ⟨"GradientShards$Link", "take", "(I)V"⟩, "GradientShards"), ("GradientShards", 199, ⟨"GradientShards$Shard", "applyEndedClocks", "()V"⟩, "GradientShards"), ("GradientShards$Shard", 70, ⟨"GradientShards$Link", "contribution", "(I)I"⟩, "GradientShards"), ("GradientShards$Link", 54, ⟨"GradientShards", "bounded", "(I)I"⟩, "GradientShards"), ("GradientShards$Shard", 73, ⟨"GradientShards", "bounded", "(I)I"⟩, "GradientShards"), ("GradientShards$Shard", 67, ⟨"GradientShards$Link", "moveBoundaryBehindNextEnd", "()V"⟩, "GradientShards"), ("GradientShards", 108, ⟨"GradientShards$Net", "isFull", "()Z"⟩, "GradientShards"), ("GradientShards", 118, ⟨"GradientShards$Link", "isDueAgain", "(I)Z"⟩, "GradientShards"), ("GradientShards", 143, ⟨"GradientShards$Net", "removeAllOf", "(I)V"⟩, "GradientShards"), ("GradientShards", 149, ⟨"GradientShards$Shard", "goBackToCheckpoint", "()V"⟩, "GradientShards"), ("GradientShards$Shard", 91, ⟨"GradientShards$Link", "goBackToStart", "(I)V"⟩, "GradientShards"), ("GradientShards", 158, ⟨"GradientShards$Shard", "makeCheckpoint", "()I"⟩, "GradientShards"), ("GradientShards$Shard", 88, ⟨"GradientShards$Link", "keepFromBoundary", "()I"⟩, "GradientShards"), ("GradientShards", 161, ⟨"GradientShards$Shard", "earlyNumber", "()I"⟩, "GradientShards"), ("GradientShards$Shard", 41, ⟨"GradientShards$Link", "earlyNumber", "()I"⟩, "GradientShards"), ("GradientShards", 164, ⟨"GradientShards$Link", "unconfirmedNumber", "()I"⟩, "GradientShards")]
theorem w_nf_Nt_15 : (("GradientShards$Net", 15, "GradientShards$Link", "worker", "I", "GradientShards") : String × Nat × String × String × String × String) ∈ NF := List.mem_of_getElem? (i := 0) rfl
theorem w_nf_Nt_21 : (("GradientShards$Net", 21, "GradientShards$Link", "shard", "I", "GradientShards") : String × Nat × String × String × String × String) ∈ NF := List.mem_of_getElem? (i := 1) rfl
theorem w_nf_Gs_121 : (("GradientShards", 121, "GradientShards$Link", "confirmed", "I", "GradientShards") : String × Nat × String × String × String × String) ∈ NF := List.mem_of_getElem? (i := 2) rfl
theorem w_nf_Gs_202 : (("GradientShards", 202, "GradientShards$Link", "turn", "I", "GradientShards") : String × Nat × String × String × String × String) ∈ NF := List.mem_of_getElem? (i := 3) rfl
theorem w_nf_Sh_45 : (("GradientShards$Shard", 45, "GradientShards$Link", "endsHandled", "I", "GradientShards") : String × Nat × String × String × String × String) ∈ NF := List.mem_of_getElem? (i := 4) rfl
theorem w_nf_Gs_88 : (("GradientShards", 88, "GradientShards$Shard", "links", "[LGradientShards$Link;", "GradientShards") : String × Nat × String × String × String × String) ∈ NF := List.mem_of_getElem? (i := 5) rfl
theorem w_nf_Gs_71 : (("GradientShards", 71, "GradientShards$Shard", "values", "[I", "GradientShards") : String × Nat × String × String × String × String) ∈ NF := List.mem_of_getElem? (i := 6) rfl
theorem w_nf_Gs_64 : (("GradientShards", 64, "GradientShards$Shard", "clocksDone", "I", "GradientShards") : String × Nat × String × String × String × String) ∈ NF := List.mem_of_getElem? (i := 7) rfl
theorem w_nf_Gs_60 : (("GradientShards", 60, "GradientShards$Shard", "up", "Z", "GradientShards") : String × Nat × String × String × String × String) ∈ NF := List.mem_of_getElem? (i := 8) rfl
theorem w_nf_Gs_77 : (("GradientShards", 77, "GradientShards$Net", "codes", "[I", "GradientShards") : String × Nat × String × String × String × String) ∈ NF := List.mem_of_getElem? (i := 9) rfl
theorem w_nf_Gs_131 : (("GradientShards", 131, "GradientShards$Net", "size", "I", "GradientShards") : String × Nat × String × String × String × String) ∈ NF := List.mem_of_getElem? (i := 10) rfl
theorem w_nf_Gs_167 : (("GradientShards", 167, "GradientShards$Net", "sent", "I", "GradientShards") : String × Nat × String × String × String × String) ∈ NF := List.mem_of_getElem? (i := 11) rfl
theorem w_nf_Gs_170 : (("GradientShards", 170, "GradientShards$Net", "lost", "I", "GradientShards") : String × Nat × String × String × String × String) ∈ NF := List.mem_of_getElem? (i := 12) rfl
theorem w_nm_Gs_23 : (("GradientShards", 23, y_Sh_init, "GradientShards") : String × Nat × MethodName × String) ∈ NM := List.mem_of_getElem? (i := 0) rfl
theorem w_nm_Sh_38 : (("GradientShards$Shard", 38, y_Lk_init, "GradientShards") : String × Nat × MethodName × String) ∈ NM := List.mem_of_getElem? (i := 1) rfl
theorem w_nm_Gs_28 : (("GradientShards", 28, y_Nt_init, "GradientShards") : String × Nat × MethodName × String) ∈ NM := List.mem_of_getElem? (i := 2) rfl
theorem w_nm_Gs_47 : (("GradientShards", 47, y_Lk_keptNumber, "GradientShards") : String × Nat × MethodName × String) ∈ NM := List.mem_of_getElem? (i := 3) rfl
theorem w_nm_Gs_182 : (("GradientShards", 182, y_Lk_append, "GradientShards") : String × Nat × MethodName × String) ∈ NM := List.mem_of_getElem? (i := 4) rfl
theorem w_nm_Gs_185 : (("GradientShards", 185, y_Lk_noteSending, "GradientShards") : String × Nat × MethodName × String) ∈ NM := List.mem_of_getElem? (i := 5) rfl
theorem w_nm_Gs_189 : (("GradientShards", 189, y_Nt_codeOf, "GradientShards") : String × Nat × MethodName × String) ∈ NM := List.mem_of_getElem? (i := 6) rfl
theorem w_nm_Gs_112 : (("GradientShards", 112, y_Nt_send, "GradientShards") : String × Nat × MethodName × String) ∈ NM := List.mem_of_getElem? (i := 7) rfl
theorem w_nm_Gs_74 : (("GradientShards", 74, y_Nt_holds, "GradientShards") : String × Nat × MethodName × String) ∈ NM := List.mem_of_getElem? (i := 8) rfl
theorem w_nm_Gs_80 : (("GradientShards", 80, y_Nt_remove, "GradientShards") : String × Nat × MethodName × String) ∈ NM := List.mem_of_getElem? (i := 9) rfl
theorem w_nm_Gs_84 : (("GradientShards", 84, y_Nt_shardOf, "GradientShards") : String × Nat × MethodName × String) ∈ NM := List.mem_of_getElem? (i := 10) rfl
theorem w_nm_Gs_92 : (("GradientShards", 92, y_Nt_workerOf, "GradientShards") : String × Nat × MethodName × String) ∈ NM := List.mem_of_getElem? (i := 11) rfl
theorem w_nm_Gs_95 : (("GradientShards", 95, y_Nt_kindOf, "GradientShards") : String × Nat × MethodName × String) ∈ NM := List.mem_of_getElem? (i := 12) rfl
theorem w_nm_Gs_98 : (("GradientShards", 98, y_Nt_numberOf, "GradientShards") : String × Nat × MethodName × String) ∈ NM := List.mem_of_getElem? (i := 13) rfl
theorem w_nm_Gs_101 : (("GradientShards", 101, y_Lk_confirm, "GradientShards") : String × Nat × MethodName × String) ∈ NM := List.mem_of_getElem? (i := 14) rfl
theorem w_nm_Gs_193 : (("GradientShards", 193, y_Lk_hasTaken, "GradientShards") : String × Nat × MethodName × String) ∈ NM := List.mem_of_getElem? (i := 15) rfl
theorem w_nm_Gs_196 : (("GradientShards", 196, y_Lk_take, "GradientShards") : String × Nat × MethodName × String) ∈ NM := List.mem_of_getElem? (i := 16) rfl
theorem w_nm_Gs_199 : (("GradientShards", 199, y_Sh_applyEndedClocks, "GradientShards") : String × Nat × MethodName × String) ∈ NM := List.mem_of_getElem? (i := 17) rfl
theorem w_nm_Sh_70 : (("GradientShards$Shard", 70, y_Lk_contribution, "GradientShards") : String × Nat × MethodName × String) ∈ NM := List.mem_of_getElem? (i := 18) rfl
theorem w_nm_Lk_54 : (("GradientShards$Link", 54, y_Gs_bounded, "GradientShards") : String × Nat × MethodName × String) ∈ NM := List.mem_of_getElem? (i := 19) rfl
theorem w_nm_Sh_73 : (("GradientShards$Shard", 73, y_Gs_bounded, "GradientShards") : String × Nat × MethodName × String) ∈ NM := List.mem_of_getElem? (i := 20) rfl
theorem w_nm_Sh_67 : (("GradientShards$Shard", 67, y_Lk_moveBoundaryBehindNextEnd, "GradientShards") : String × Nat × MethodName × String) ∈ NM := List.mem_of_getElem? (i := 21) rfl
theorem w_nm_Gs_108 : (("GradientShards", 108, y_Nt_isFull, "GradientShards") : String × Nat × MethodName × String) ∈ NM := List.mem_of_getElem? (i := 22) rfl
theorem w_nm_Gs_118 : (("GradientShards", 118, y_Lk_isDueAgain, "GradientShards") : String × Nat × MethodName × String) ∈ NM := List.mem_of_getElem? (i := 23) rfl
theorem w_nm_Gs_143 : (("GradientShards", 143, y_Nt_removeAllOf, "GradientShards") : String × Nat × MethodName × String) ∈ NM := List.mem_of_getElem? (i := 24) rfl
theorem w_nm_Gs_149 : (("GradientShards", 149, y_Sh_goBackToCheckpoint, "GradientShards") : String × Nat × MethodName × String) ∈ NM := List.mem_of_getElem? (i := 25) rfl
theorem w_nm_Sh_91 : (("GradientShards$Shard", 91, y_Lk_goBackToStart, "GradientShards") : String × Nat × MethodName × String) ∈ NM := List.mem_of_getElem? (i := 26) rfl
theorem w_nm_Gs_158 : (("GradientShards", 158, y_Sh_makeCheckpoint, "GradientShards") : String × Nat × MethodName × String) ∈ NM := List.mem_of_getElem? (i := 27) rfl
theorem w_nm_Sh_88 : (("GradientShards$Shard", 88, y_Lk_keepFromBoundary, "GradientShards") : String × Nat × MethodName × String) ∈ NM := List.mem_of_getElem? (i := 28) rfl
theorem w_nm_Gs_161 : (("GradientShards", 161, y_Sh_earlyNumber, "GradientShards") : String × Nat × MethodName × String) ∈ NM := List.mem_of_getElem? (i := 29) rfl
theorem w_nm_Sh_41 : (("GradientShards$Shard", 41, y_Lk_earlyNumber, "GradientShards") : String × Nat × MethodName × String) ∈ NM := List.mem_of_getElem? (i := 30) rfl
theorem w_nm_Gs_164 : (("GradientShards", 164, y_Lk_unconfirmedNumber, "GradientShards") : String × Nat × MethodName × String) ∈ NM := List.mem_of_getElem? (i := 31) rfl
theorem nf_tbl : ∀ q ∈ NF, Cond.fieldLinkNest q.1 q.2.1 q.2.2.1 q.2.2.2.1 q.2.2.2.2.1 q.2.2.2.2.2 ∈ lw_tbl := by decide +kernel
theorem nm_tbl : ∀ q ∈ NM, Cond.methodLinkNest q.1 q.2.1 q.2.2.1 q.2.2.2 ∈ lw_tbl := by decide +kernel
