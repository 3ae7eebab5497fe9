theorem k0 : (Jvm.Cond.initialized "BlinkMeshLaw") ∈ gtbl := gw 0 (by decide +kernel) rfl
theorem k1 : (Jvm.Cond.initialized "BlinkMesh") ∈ gtbl := gw 1 (by decide +kernel) rfl
theorem k2 : (Jvm.Cond.initialized "BlinkMesh$Mesh") ∈ gtbl := gw 2 (by decide +kernel) rfl
theorem k3 : (Jvm.Cond.initialized "BlinkMesh$History") ∈ gtbl := gw 3 (by decide +kernel) rfl
theorem k4 : (Jvm.Cond.initialized "BlinkMesh$MeshText") ∈ gtbl := gw 4 (by decide +kernel) rfl
theorem k5 : (Jvm.Cond.initialized "BlinkMeshModel") ∈ gtbl := gw 5 (by decide +kernel) rfl
theorem k6 : (Jvm.Cond.initialized "java/lang/System") ∈ gtbl := gw 6 (by decide +kernel) rfl
theorem k7 : (Jvm.Cond.initialized "java/lang/Integer") ∈ gtbl := gw 7 (by decide +kernel) rfl
theorem k8 : (Jvm.Cond.initialized "java/lang/Math") ∈ gtbl := gw 8 (by decide +kernel) rfl
theorem k9 : (Jvm.Cond.classLink "BlinkMeshLaw" (7 : Nat) "BlinkMesh") ∈ gtbl := gw 9 (by decide +kernel) rfl
theorem k10 : (Jvm.Cond.instantiable "BlinkMesh" (6 : Nat)) ∈ gtbl := gw 10 (by decide +kernel) rfl
theorem k11 : (Jvm.Cond.methodLink "BlinkMeshLaw" (9 : Nat) ({ cls := "BlinkMesh", name := "<init>", desc := "()V" } : Jvm.MethodName)) ∈ gtbl := gw 11 (by decide +kernel) rfl
theorem k12 : (Jvm.Cond.instanceMethod ({ cls := "BlinkMesh", name := "<init>", desc := "()V" } : Jvm.MethodName)) ∈ gtbl := gw 12 (by decide +kernel) rfl
theorem k13 : (Jvm.Cond.code ({ cls := "BlinkMesh", name := "<init>", desc := "()V" } : Jvm.MethodName) prog_1_method_1_code (1 : Nat) (Option.none : Option Jvm.ClassFile.FieldType)) ∈ gtbl := gw 13 (by decide +kernel) rfl
theorem k14 : (Jvm.Cond.methodLink "BlinkMesh" (1 : Nat) ({ cls := "java/lang/Object", name := "<init>", desc := "()V" } : Jvm.MethodName)) ∈ gtbl := gw 14 (by decide +kernel) rfl
theorem k15 : (Jvm.Cond.instanceMethod ({ cls := "java/lang/Object", name := "<init>", desc := "()V" } : Jvm.MethodName)) ∈ gtbl := gw 15 (by decide +kernel) rfl
theorem k16 : (Jvm.Cond.code ({ cls := "java/lang/Object", name := "<init>", desc := "()V" } : Jvm.MethodName) object_method_1_code (1 : Nat) (Option.none : Option Jvm.ClassFile.FieldType)) ∈ gtbl := gw 16 (by decide +kernel) rfl
theorem k17 : (Jvm.Cond.classLink "BlinkMesh" (7 : Nat) "BlinkMesh$Mesh") ∈ gtbl := gw 17 (by decide +kernel) rfl
theorem k18 : (Jvm.Cond.instantiable "BlinkMesh$Mesh" (15 : Nat)) ∈ gtbl := gw 18 (by decide +kernel) rfl
theorem k20 : (Jvm.Cond.instanceMethod ({ cls := "BlinkMesh$Mesh", name := "<init>", desc := "()V" } : Jvm.MethodName)) ∈ gtbl := gw 20 (by decide +kernel) rfl
theorem k21 : (Jvm.Cond.code ({ cls := "BlinkMesh$Mesh", name := "<init>", desc := "()V" } : Jvm.MethodName) prog_3_method_1_code (1 : Nat) (Option.none : Option Jvm.ClassFile.FieldType)) ∈ gtbl := gw 21 (by decide +kernel) rfl
theorem k22 : (Jvm.Cond.methodLink "BlinkMesh$Mesh" (3 : Nat) ({ cls := "java/lang/Object", name := "<init>", desc := "()V" } : Jvm.MethodName)) ∈ gtbl := gw 22 (by decide +kernel) rfl
theorem k25 : (Jvm.Cond.methodLink "BlinkMesh$Mesh" (36 : Nat) ({ cls := "[I", name := "clone", desc := "()Ljava/lang/Object;" } : Jvm.MethodName)) ∈ gtbl := gw 25 (by decide +kernel) rfl
theorem k27 : (Jvm.Cond.native ({ cls := "java/lang/Object", name := "clone", desc := "()Ljava/lang/Object;" } : Jvm.MethodName)) ∈ gtbl := gw 27 (by decide +kernel) rfl
theorem k28 : (Jvm.Cond.instanceMethod ({ cls := "java/lang/Object", name := "clone", desc := "()Ljava/lang/Object;" } : Jvm.MethodName)) ∈ gtbl := gw 28 (by decide +kernel) rfl
theorem k29 : (Jvm.Cond.selects "[I" ({ cls := "[I", name := "clone", desc := "()Ljava/lang/Object;" } : Jvm.MethodName) ({ cls := "java/lang/Object", name := "clone", desc := "()Ljava/lang/Object;" } : Jvm.MethodName)) ∈ gtbl := gw 29 (by decide +kernel) rfl
theorem k31 : (Jvm.Cond.classLink "BlinkMesh$Mesh" (37 : Nat) "[I") ∈ gtbl := gw 31 (by decide +kernel) rfl
theorem k32 : (Jvm.Cond.fieldLink "BlinkMesh$Mesh" (9 : Nat) "BlinkMesh$Mesh" "phase" "[I") ∈ gtbl := gw 32 (by decide +kernel) rfl
theorem k33 : (Jvm.Cond.fieldLink "BlinkMesh$Mesh" (15 : Nat) "BlinkMesh$Mesh" "rate" "[I") ∈ gtbl := gw 33 (by decide +kernel) rfl
theorem k34 : (Jvm.Cond.fieldLink "BlinkMesh$Mesh" (18 : Nat) "BlinkMesh$Mesh" "deaf" "[I") ∈ gtbl := gw 34 (by decide +kernel) rfl
theorem k35 : (Jvm.Cond.fieldLink "BlinkMesh$Mesh" (21 : Nat) "BlinkMesh$Mesh" "linked" "[I") ∈ gtbl := gw 35 (by decide +kernel) rfl
theorem k36 : (Jvm.Cond.fieldLink "BlinkMesh$Mesh" (24 : Nat) "BlinkMesh$Mesh" "blinks" "[I") ∈ gtbl := gw 36 (by decide +kernel) rfl
theorem k37 : (Jvm.Cond.fieldLink "BlinkMesh$Mesh" (27 : Nat) "BlinkMesh$Mesh" "latest" "[I") ∈ gtbl := gw 37 (by decide +kernel) rfl
theorem k38 : (Jvm.Cond.fieldLink "BlinkMesh$Mesh" (30 : Nat) "BlinkMesh$Mesh" "pushes" "[I") ∈ gtbl := gw 38 (by decide +kernel) rfl
theorem k39 : (Jvm.Cond.fieldLink "BlinkMesh$Mesh" (41 : Nat) "BlinkMesh$Mesh" "settings" "[I") ∈ gtbl := gw 39 (by decide +kernel) rfl
theorem k40 : (Jvm.Cond.fieldLink "BlinkMesh$Mesh" (50 : Nat) "BlinkMesh$Mesh" "there" "I") ∈ gtbl := gw 40 (by decide +kernel) rfl
theorem k41 : (Jvm.Cond.fieldLink "BlinkMesh$Mesh" (54 : Nat) "BlinkMesh$Mesh" "on" "I") ∈ gtbl := gw 41 (by decide +kernel) rfl
theorem k42 : (Jvm.Cond.fieldLink "BlinkMesh$Mesh" (57 : Nat) "BlinkMesh$Mesh" "tick" "I") ∈ gtbl := gw 42 (by decide +kernel) rfl
theorem k43 : (Jvm.Cond.fieldLink "BlinkMesh$Mesh" (60 : Nat) "BlinkMesh$Mesh" "blinkCount" "I") ∈ gtbl := gw 43 (by decide +kernel) rfl
theorem k44 : (Jvm.Cond.fieldLink "BlinkMesh$Mesh" (63 : Nat) "BlinkMesh$Mesh" "pushCount" "I") ∈ gtbl := gw 44 (by decide +kernel) rfl
theorem k45 : (Jvm.Cond.fieldLink "BlinkMesh$Mesh" (66 : Nat) "BlinkMesh$Mesh" "sharedTicks" "I") ∈ gtbl := gw 45 (by decide +kernel) rfl
theorem k46 : (Jvm.Cond.fieldLink "BlinkMesh$Mesh" (69 : Nat) "BlinkMesh$Mesh" "mostTogether" "I") ∈ gtbl := gw 46 (by decide +kernel) rfl
theorem k78 : (Jvm.Cond.arrayClass Jvm.ClassFile.FieldType.int) ∈ gtbl := gw 78 (by decide +kernel) rfl
theorem k79 : (Jvm.Cond.classLink "BlinkMesh" (26 : Nat) "BlinkMesh$History") ∈ gtbl := gw 79 (by decide +kernel) rfl
theorem k80 : (Jvm.Cond.instantiable "BlinkMesh$History" (2 : Nat)) ∈ gtbl := gw 80 (by decide +kernel) rfl
theorem k81 : (Jvm.Cond.methodLink "BlinkMesh" (28 : Nat) ({ cls := "BlinkMesh$History", name := "<init>", desc := "()V" } : Jvm.MethodName)) ∈ gtbl := gw 81 (by decide +kernel) rfl
theorem k82 : (Jvm.Cond.instanceMethod ({ cls := "BlinkMesh$History", name := "<init>", desc := "()V" } : Jvm.MethodName)) ∈ gtbl := gw 82 (by decide +kernel) rfl
theorem k83 : (Jvm.Cond.code ({ cls := "BlinkMesh$History", name := "<init>", desc := "()V" } : Jvm.MethodName) prog_2_method_1_code (2 : Nat) (Option.none : Option Jvm.ClassFile.FieldType)) ∈ gtbl := gw 83 (by decide +kernel) rfl
theorem k84 : (Jvm.Cond.methodLink "BlinkMesh$History" (3 : Nat) ({ cls := "java/lang/Object", name := "<init>", desc := "()V" } : Jvm.MethodName)) ∈ gtbl := gw 84 (by decide +kernel) rfl
theorem k85 : (Jvm.Cond.classLink "BlinkMesh$History" (9 : Nat) "BlinkMesh$Mesh") ∈ gtbl := gw 85 (by decide +kernel) rfl
theorem k88 : (Jvm.Cond.fieldLink "BlinkMesh$History" (11 : Nat) "BlinkMesh$History" "states" "[LBlinkMesh$Mesh;") ∈ gtbl := gw 88 (by decide +kernel) rfl
theorem k89 : (Jvm.Cond.fieldLink "BlinkMesh$History" (18 : Nat) "BlinkMesh$History" "kept" "I") ∈ gtbl := gw 89 (by decide +kernel) rfl
theorem k95 : (Jvm.Cond.classLink "BlinkMesh" (33 : Nat) "BlinkMesh$MeshText") ∈ gtbl := gw 95 (by decide +kernel) rfl
theorem k96 : (Jvm.Cond.instantiable "BlinkMesh$MeshText" (7 : Nat)) ∈ gtbl := gw 96 (by decide +kernel) rfl
theorem k98 : (Jvm.Cond.instanceMethod ({ cls := "BlinkMesh$MeshText", name := "<init>", desc := "()V" } : Jvm.MethodName)) ∈ gtbl := gw 98 (by decide +kernel) rfl
theorem k99 : (Jvm.Cond.code ({ cls := "BlinkMesh$MeshText", name := "<init>", desc := "()V" } : Jvm.MethodName) prog_4_method_1_code (1 : Nat) (Option.none : Option Jvm.ClassFile.FieldType)) ∈ gtbl := gw 99 (by decide +kernel) rfl
theorem k100 : (Jvm.Cond.methodLink "BlinkMesh$MeshText" (3 : Nat) ({ cls := "java/lang/Object", name := "<init>", desc := "()V" } : Jvm.MethodName)) ∈ gtbl := gw 100 (by decide +kernel) rfl
theorem k101 : (Jvm.Cond.fieldLink "BlinkMesh$MeshText" (9 : Nat) "BlinkMesh$MeshText" "characters" "[C") ∈ gtbl := gw 101 (by decide +kernel) rfl
theorem k102 : (Jvm.Cond.fieldLink "BlinkMesh$MeshText" (25 : Nat) "BlinkMesh$MeshText" "length" "I") ∈ gtbl := gw 102 (by decide +kernel) rfl
theorem k103 : (Jvm.Cond.fieldLink "BlinkMesh$MeshText" (29 : Nat) "BlinkMesh$MeshText" "place" "I") ∈ gtbl := gw 103 (by decide +kernel) rfl
theorem k104 : (Jvm.Cond.fieldLink "BlinkMesh$MeshText" (15 : Nat) "BlinkMesh$MeshText" "phase" "[I") ∈ gtbl := gw 104 (by decide +kernel) rfl
theorem k105 : (Jvm.Cond.fieldLink "BlinkMesh$MeshText" (19 : Nat) "BlinkMesh$MeshText" "rate" "[I") ∈ gtbl := gw 105 (by decide +kernel) rfl
theorem k106 : (Jvm.Cond.fieldLink "BlinkMesh$MeshText" (37 : Nat) "BlinkMesh$MeshText" "lampCount" "I") ∈ gtbl := gw 106 (by decide +kernel) rfl
theorem k107 : (Jvm.Cond.fieldLink "BlinkMesh$MeshText" (22 : Nat) "BlinkMesh$MeshText" "linked" "[I") ∈ gtbl := gw 107 (by decide +kernel) rfl
theorem k123 : (Jvm.Cond.arrayClass Jvm.ClassFile.FieldType.char) ∈ gtbl := gw 123 (by decide +kernel) rfl
theorem k124 : (Jvm.Cond.fieldLink "BlinkMesh" (10 : Nat) "BlinkMesh" "mesh" "LBlinkMesh$Mesh;") ∈ gtbl := gw 124 (by decide +kernel) rfl
theorem k125 : (Jvm.Cond.fieldLink "BlinkMesh" (16 : Nat) "BlinkMesh" "trial" "LBlinkMesh$Mesh;") ∈ gtbl := gw 125 (by decide +kernel) rfl
theorem k126 : (Jvm.Cond.fieldLink "BlinkMesh" (19 : Nat) "BlinkMesh" "snapshot" "LBlinkMesh$Mesh;") ∈ gtbl := gw 126 (by decide +kernel) rfl
theorem k127 : (Jvm.Cond.fieldLink "BlinkMesh" (22 : Nat) "BlinkMesh" "hasSnapshot" "Z") ∈ gtbl := gw 127 (by decide +kernel) rfl
theorem k128 : (Jvm.Cond.fieldLink "BlinkMesh" (29 : Nat) "BlinkMesh" "history" "LBlinkMesh$History;") ∈ gtbl := gw 128 (by decide +kernel) rfl
theorem k129 : (Jvm.Cond.fieldLink "BlinkMesh" (36 : Nat) "BlinkMesh" "text" "LBlinkMesh$MeshText;") ∈ gtbl := gw 129 (by decide +kernel) rfl
theorem k143 : (Jvm.Cond.methodLink "BlinkMeshLaw" (13 : Nat) ({ cls := "BlinkMesh", name := "come", desc := "(II)I" } : Jvm.MethodName)) ∈ gtbl := gw 143 (by decide +kernel) rfl
theorem k144 : (Jvm.Cond.instanceMethod ({ cls := "BlinkMesh", name := "come", desc := "(II)I" } : Jvm.MethodName)) ∈ gtbl := gw 144 (by decide +kernel) rfl
theorem k145 : (Jvm.Cond.selects "BlinkMesh" ({ cls := "BlinkMesh", name := "come", desc := "(II)I" } : Jvm.MethodName) ({ cls := "BlinkMesh", name := "come", desc := "(II)I" } : Jvm.MethodName)) ∈ gtbl := gw 145 (by decide +kernel) rfl
theorem k146 : (Jvm.Cond.code ({ cls := "BlinkMesh", name := "come", desc := "(II)I" } : Jvm.MethodName) prog_1_method_2_code (4 : Nat) (Option.some Jvm.ClassFile.FieldType.int)) ∈ gtbl := gw 146 (by decide +kernel) rfl
theorem k147 : (Jvm.Cond.methodLink "BlinkMesh" (40 : Nat) ({ cls := "BlinkMesh$Mesh", name := "isWholePhase", desc := "(I)Z" } : Jvm.MethodName)) ∈ gtbl := gw 147 (by decide +kernel) rfl
theorem k148 : (Jvm.Cond.instanceMethod ({ cls := "BlinkMesh$Mesh", name := "isWholePhase", desc := "(I)Z" } : Jvm.MethodName)) ∈ gtbl := gw 148 (by decide +kernel) rfl
theorem k149 : (Jvm.Cond.selects "BlinkMesh$Mesh" ({ cls := "BlinkMesh$Mesh", name := "isWholePhase", desc := "(I)Z" } : Jvm.MethodName) ({ cls := "BlinkMesh$Mesh", name := "isWholePhase", desc := "(I)Z" } : Jvm.MethodName)) ∈ gtbl := gw 149 (by decide +kernel) rfl
theorem k150 : (Jvm.Cond.code ({ cls := "BlinkMesh$Mesh", name := "isWholePhase", desc := "(I)Z" } : Jvm.MethodName) prog_3_method_7_code (2 : Nat) (Option.some Jvm.ClassFile.FieldType.boolean)) ∈ gtbl := gw 150 (by decide +kernel) rfl
theorem k151 : (Jvm.Cond.methodLink "BlinkMesh" (44 : Nat) ({ cls := "BlinkMesh", name := "isRate", desc := "(I)Z" } : Jvm.MethodName)) ∈ gtbl := gw 151 (by decide +kernel) rfl
theorem k152 : (Jvm.Cond.static ({ cls := "BlinkMesh", name := "isRate", desc := "(I)Z" } : Jvm.MethodName)) ∈ gtbl := gw 152 (by decide +kernel) rfl
theorem k153 : (Jvm.Cond.code ({ cls := "BlinkMesh", name := "isRate", desc := "(I)Z" } : Jvm.MethodName) prog_1_method_25_code (1 : Nat) (Option.some Jvm.ClassFile.FieldType.boolean)) ∈ gtbl := gw 153 (by decide +kernel) rfl
theorem k154 : (Jvm.Cond.methodLink "BlinkMesh" (47 : Nat) ({ cls := "BlinkMesh$Mesh", name := "freeNumber", desc := "()I" } : Jvm.MethodName)) ∈ gtbl := gw 154 (by decide +kernel) rfl
theorem k155 : (Jvm.Cond.instanceMethod ({ cls := "BlinkMesh$Mesh", name := "freeNumber", desc := "()I" } : Jvm.MethodName)) ∈ gtbl := gw 155 (by decide +kernel) rfl
theorem k156 : (Jvm.Cond.selects "BlinkMesh$Mesh" ({ cls := "BlinkMesh$Mesh", name := "freeNumber", desc := "()I" } : Jvm.MethodName) ({ cls := "BlinkMesh$Mesh", name := "freeNumber", desc := "()I" } : Jvm.MethodName)) ∈ gtbl := gw 156 (by decide +kernel) rfl
theorem k157 : (Jvm.Cond.code ({ cls := "BlinkMesh$Mesh", name := "freeNumber", desc := "()I" } : Jvm.MethodName) prog_3_method_14_code (2 : Nat) (Option.some Jvm.ClassFile.FieldType.int)) ∈ gtbl := gw 157 (by decide +kernel) rfl
theorem k159 : (Jvm.Cond.static ({ cls := "BlinkMesh", name := "holds", desc := "(II)Z" } : Jvm.MethodName)) ∈ gtbl := gw 159 (by decide +kernel) rfl
theorem k160 : (Jvm.Cond.code ({ cls := "BlinkMesh", name := "holds", desc := "(II)Z" } : Jvm.MethodName) prog_1_method_26_code (2 : Nat) (Option.some Jvm.ClassFile.FieldType.boolean)) ∈ gtbl := gw 160 (by decide +kernel) rfl
theorem k161 : (Jvm.Cond.methodLink "BlinkMesh" (51 : Nat) ({ cls := "BlinkMesh$History", name := "remember", desc := "(LBlinkMesh$Mesh;)V" } : Jvm.MethodName)) ∈ gtbl := gw 161 (by decide +kernel) rfl
theorem k162 : (Jvm.Cond.instanceMethod ({ cls := "BlinkMesh$History", name := "remember", desc := "(LBlinkMesh$Mesh;)V" } : Jvm.MethodName)) ∈ gtbl := gw 162 (by decide +kernel) rfl
theorem k163 : (Jvm.Cond.selects "BlinkMesh$History" ({ cls := "BlinkMesh$History", name := "remember", desc := "(LBlinkMesh$Mesh;)V" } : Jvm.MethodName) ({ cls := "BlinkMesh$History", name := "remember", desc := "(LBlinkMesh$Mesh;)V" } : Jvm.MethodName)) ∈ gtbl := gw 163 (by decide +kernel) rfl
theorem k164 : (Jvm.Cond.code ({ cls := "BlinkMesh$History", name := "remember", desc := "(LBlinkMesh$Mesh;)V" } : Jvm.MethodName) prog_2_method_3_code (2 : Nat) (Option.none : Option Jvm.ClassFile.FieldType)) ∈ gtbl := gw 164 (by decide +kernel) rfl
theorem k165 : (Jvm.Cond.methodLink "BlinkMesh$History" (22 : Nat) ({ cls := "BlinkMesh$History", name := "dropOldest", desc := "()V" } : Jvm.MethodName)) ∈ gtbl := gw 165 (by decide +kernel) rfl
theorem k167 : (Jvm.Cond.instanceMethod ({ cls := "BlinkMesh$History", name := "dropOldest", desc := "()V" } : Jvm.MethodName)) ∈ gtbl := gw 167 (by decide +kernel) rfl
theorem k168 : (Jvm.Cond.code ({ cls := "BlinkMesh$History", name := "dropOldest", desc := "()V" } : Jvm.MethodName) prog_2_method_4_code (3 : Nat) (Option.none : Option Jvm.ClassFile.FieldType)) ∈ gtbl := gw 168 (by decide +kernel) rfl
theorem k169 : (Jvm.Cond.methodLink "BlinkMesh$History" (25 : Nat) ({ cls := "BlinkMesh$Mesh", name := "copyFrom", desc := "(LBlinkMesh$Mesh;)V" } : Jvm.MethodName)) ∈ gtbl := gw 169 (by decide +kernel) rfl
theorem k170 : (Jvm.Cond.instanceMethod ({ cls := "BlinkMesh$Mesh", name := "copyFrom", desc := "(LBlinkMesh$Mesh;)V" } : Jvm.MethodName)) ∈ gtbl := gw 170 (by decide +kernel) rfl
theorem k171 : (Jvm.Cond.selects "BlinkMesh$Mesh" ({ cls := "BlinkMesh$Mesh", name := "copyFrom", desc := "(LBlinkMesh$Mesh;)V" } : Jvm.MethodName) ({ cls := "BlinkMesh$Mesh", name := "copyFrom", desc := "(LBlinkMesh$Mesh;)V" } : Jvm.MethodName)) ∈ gtbl := gw 171 (by decide +kernel) rfl
theorem k172 : (Jvm.Cond.code ({ cls := "BlinkMesh$Mesh", name := "copyFrom", desc := "(LBlinkMesh$Mesh;)V" } : Jvm.MethodName) prog_3_method_2_code (2 : Nat) (Option.none : Option Jvm.ClassFile.FieldType)) ∈ gtbl := gw 172 (by decide +kernel) rfl
theorem k173 : (Jvm.Cond.methodLink "BlinkMesh$Mesh" (44 : Nat) ({ cls := "java/lang/System", name := "arraycopy", desc := "(Ljava/lang/Object;ILjava/lang/Object;II)V" } : Jvm.MethodName)) ∈ gtbl := gw 173 (by decide +kernel) rfl
theorem k174 : (Jvm.Cond.static ({ cls := "java/lang/System", name := "arraycopy", desc := "(Ljava/lang/Object;ILjava/lang/Object;II)V" } : Jvm.MethodName)) ∈ gtbl := gw 174 (by decide +kernel) rfl
theorem k175 : (Jvm.Cond.native ({ cls := "java/lang/System", name := "arraycopy", desc := "(Ljava/lang/Object;ILjava/lang/Object;II)V" } : Jvm.MethodName)) ∈ gtbl := gw 175 (by decide +kernel) rfl
theorem k176 : (Jvm.Cond.methodLink "BlinkMesh" (55 : Nat) ({ cls := "BlinkMesh$Mesh", name := "place", desc := "(III)V" } : Jvm.MethodName)) ∈ gtbl := gw 176 (by decide +kernel) rfl
theorem k177 : (Jvm.Cond.instanceMethod ({ cls := "BlinkMesh$Mesh", name := "place", desc := "(III)V" } : Jvm.MethodName)) ∈ gtbl := gw 177 (by decide +kernel) rfl
theorem k178 : (Jvm.Cond.selects "BlinkMesh$Mesh" ({ cls := "BlinkMesh$Mesh", name := "place", desc := "(III)V" } : Jvm.MethodName) ({ cls := "BlinkMesh$Mesh", name := "place", desc := "(III)V" } : Jvm.MethodName)) ∈ gtbl := gw 178 (by decide +kernel) rfl
theorem k179 : (Jvm.Cond.code ({ cls := "BlinkMesh$Mesh", name := "place", desc := "(III)V" } : Jvm.MethodName) prog_3_method_15_code (4 : Nat) (Option.none : Option Jvm.ClassFile.FieldType)) ∈ gtbl := gw 179 (by decide +kernel) rfl
theorem k180 : (Jvm.Cond.methodLink "BlinkMeshLaw" (18 : Nat) ({ cls := "BlinkMesh", name := "goAway", desc := "(I)I" } : Jvm.MethodName)) ∈ gtbl := gw 180 (by decide +kernel) rfl
theorem k181 : (Jvm.Cond.instanceMethod ({ cls := "BlinkMesh", name := "goAway", desc := "(I)I" } : Jvm.MethodName)) ∈ gtbl := gw 181 (by decide +kernel) rfl
theorem k182 : (Jvm.Cond.selects "BlinkMesh" ({ cls := "BlinkMesh", name := "goAway", desc := "(I)I" } : Jvm.MethodName) ({ cls := "BlinkMesh", name := "goAway", desc := "(I)I" } : Jvm.MethodName)) ∈ gtbl := gw 182 (by decide +kernel) rfl
theorem k183 : (Jvm.Cond.code ({ cls := "BlinkMesh", name := "goAway", desc := "(I)I" } : Jvm.MethodName) prog_1_method_3_code (2 : Nat) (Option.some Jvm.ClassFile.FieldType.int)) ∈ gtbl := gw 183 (by decide +kernel) rfl
theorem k184 : (Jvm.Cond.methodLink "BlinkMesh" (59 : Nat) ({ cls := "BlinkMesh$Mesh", name := "has", desc := "(I)Z" } : Jvm.MethodName)) ∈ gtbl := gw 184 (by decide +kernel) rfl
theorem k185 : (Jvm.Cond.instanceMethod ({ cls := "BlinkMesh$Mesh", name := "has", desc := "(I)Z" } : Jvm.MethodName)) ∈ gtbl := gw 185 (by decide +kernel) rfl
theorem k186 : (Jvm.Cond.selects "BlinkMesh$Mesh" ({ cls := "BlinkMesh$Mesh", name := "has", desc := "(I)Z" } : Jvm.MethodName) ({ cls := "BlinkMesh$Mesh", name := "has", desc := "(I)Z" } : Jvm.MethodName)) ∈ gtbl := gw 186 (by decide +kernel) rfl
theorem k187 : (Jvm.Cond.code ({ cls := "BlinkMesh$Mesh", name := "has", desc := "(I)Z" } : Jvm.MethodName) prog_3_method_3_code (2 : Nat) (Option.some Jvm.ClassFile.FieldType.boolean)) ∈ gtbl := gw 187 (by decide +kernel) rfl
theorem k188 : (Jvm.Cond.methodLink "BlinkMesh" (62 : Nat) ({ cls := "BlinkMesh$Mesh", name := "remove", desc := "(I)I" } : Jvm.MethodName)) ∈ gtbl := gw 188 (by decide +kernel) rfl
theorem k189 : (Jvm.Cond.instanceMethod ({ cls := "BlinkMesh$Mesh", name := "remove", desc := "(I)I" } : Jvm.MethodName)) ∈ gtbl := gw 189 (by decide +kernel) rfl
theorem k190 : (Jvm.Cond.selects "BlinkMesh$Mesh" ({ cls := "BlinkMesh$Mesh", name := "remove", desc := "(I)I" } : Jvm.MethodName) ({ cls := "BlinkMesh$Mesh", name := "remove", desc := "(I)I" } : Jvm.MethodName)) ∈ gtbl := gw 190 (by decide +kernel) rfl
theorem k191 : (Jvm.Cond.code ({ cls := "BlinkMesh$Mesh", name := "remove", desc := "(I)I" } : Jvm.MethodName) prog_3_method_16_code (5 : Nat) (Option.some Jvm.ClassFile.FieldType.int)) ∈ gtbl := gw 191 (by decide +kernel) rfl
theorem k192 : (Jvm.Cond.methodLink "BlinkMesh$Mesh" (83 : Nat) ({ cls := "java/lang/Integer", name := "bitCount", desc := "(I)I" } : Jvm.MethodName)) ∈ gtbl := gw 192 (by decide +kernel) rfl
theorem k193 : (Jvm.Cond.static ({ cls := "java/lang/Integer", name := "bitCount", desc := "(I)I" } : Jvm.MethodName)) ∈ gtbl := gw 193 (by decide +kernel) rfl
theorem k194 : (Jvm.Cond.code ({ cls := "java/lang/Integer", name := "bitCount", desc := "(I)I" } : Jvm.MethodName) prog_8_method_49_code (1 : Nat) (Option.some Jvm.ClassFile.FieldType.int)) ∈ gtbl := gw 194 (by decide +kernel) rfl
theorem k195 : (Jvm.Cond.constant "java/lang/Integer" (265 : Nat) (1431655765 : Int32)) ∈ gtbl := gw 195 (by decide +kernel) rfl
theorem k196 : (Jvm.Cond.constant "java/lang/Integer" (266 : Nat) (858993459 : Int32)) ∈ gtbl := gw 196 (by decide +kernel) rfl
theorem k197 : (Jvm.Cond.constant "java/lang/Integer" (267 : Nat) (252645135 : Int32)) ∈ gtbl := gw 197 (by decide +kernel) rfl
theorem k198 : (Jvm.Cond.methodLink "BlinkMeshLaw" (23 : Nat) ({ cls := "BlinkMesh", name := "turn", desc := "(IZ)I" } : Jvm.MethodName)) ∈ gtbl := gw 198 (by decide +kernel) rfl
theorem k199 : (Jvm.Cond.instanceMethod ({ cls := "BlinkMesh", name := "turn", desc := "(IZ)I" } : Jvm.MethodName)) ∈ gtbl := gw 199 (by decide +kernel) rfl
theorem k200 : (Jvm.Cond.selects "BlinkMesh" ({ cls := "BlinkMesh", name := "turn", desc := "(IZ)I" } : Jvm.MethodName) ({ cls := "BlinkMesh", name := "turn", desc := "(IZ)I" } : Jvm.MethodName)) ∈ gtbl := gw 200 (by decide +kernel) rfl
theorem k201 : (Jvm.Cond.code ({ cls := "BlinkMesh", name := "turn", desc := "(IZ)I" } : Jvm.MethodName) prog_1_method_4_code (3 : Nat) (Option.some Jvm.ClassFile.FieldType.int)) ∈ gtbl := gw 201 (by decide +kernel) rfl
theorem k202 : (Jvm.Cond.methodLink "BlinkMesh" (66 : Nat) ({ cls := "BlinkMesh$Mesh", name := "isOn", desc := "(I)Z" } : Jvm.MethodName)) ∈ gtbl := gw 202 (by decide +kernel) rfl
theorem k203 : (Jvm.Cond.instanceMethod ({ cls := "BlinkMesh$Mesh", name := "isOn", desc := "(I)Z" } : Jvm.MethodName)) ∈ gtbl := gw 203 (by decide +kernel) rfl
theorem k204 : (Jvm.Cond.selects "BlinkMesh$Mesh" ({ cls := "BlinkMesh$Mesh", name := "isOn", desc := "(I)Z" } : Jvm.MethodName) ({ cls := "BlinkMesh$Mesh", name := "isOn", desc := "(I)Z" } : Jvm.MethodName)) ∈ gtbl := gw 204 (by decide +kernel) rfl
theorem k205 : (Jvm.Cond.code ({ cls := "BlinkMesh$Mesh", name := "isOn", desc := "(I)Z" } : Jvm.MethodName) prog_3_method_4_code (2 : Nat) (Option.some Jvm.ClassFile.FieldType.boolean)) ∈ gtbl := gw 205 (by decide +kernel) rfl
theorem k206 : (Jvm.Cond.methodLink "BlinkMesh" (69 : Nat) ({ cls := "BlinkMesh$Mesh", name := "switchTo", desc := "(IZ)V" } : Jvm.MethodName)) ∈ gtbl := gw 206 (by decide +kernel) rfl
theorem k207 : (Jvm.Cond.instanceMethod ({ cls := "BlinkMesh$Mesh", name := "switchTo", desc := "(IZ)V" } : Jvm.MethodName)) ∈ gtbl := gw 207 (by decide +kernel) rfl
theorem k208 : (Jvm.Cond.selects "BlinkMesh$Mesh" ({ cls := "BlinkMesh$Mesh", name := "switchTo", desc := "(IZ)V" } : Jvm.MethodName) ({ cls := "BlinkMesh$Mesh", name := "switchTo", desc := "(IZ)V" } : Jvm.MethodName)) ∈ gtbl := gw 208 (by decide +kernel) rfl
theorem k209 : (Jvm.Cond.code ({ cls := "BlinkMesh$Mesh", name := "switchTo", desc := "(IZ)V" } : Jvm.MethodName) prog_3_method_18_code (3 : Nat) (Option.none : Option Jvm.ClassFile.FieldType)) ∈ gtbl := gw 209 (by decide +kernel) rfl
theorem k210 : (Jvm.Cond.methodLink "BlinkMesh" (73 : Nat) ({ cls := "BlinkMesh$Mesh", name := "lampsOn", desc := "()I" } : Jvm.MethodName)) ∈ gtbl := gw 210 (by decide +kernel) rfl
theorem k211 : (Jvm.Cond.instanceMethod ({ cls := "BlinkMesh$Mesh", name := "lampsOn", desc := "()I" } : Jvm.MethodName)) ∈ gtbl := gw 211 (by decide +kernel) rfl
theorem k212 : (Jvm.Cond.selects "BlinkMesh$Mesh" ({ cls := "BlinkMesh$Mesh", name := "lampsOn", desc := "()I" } : Jvm.MethodName) ({ cls := "BlinkMesh$Mesh", name := "lampsOn", desc := "()I" } : Jvm.MethodName)) ∈ gtbl := gw 212 (by decide +kernel) rfl
theorem k213 : (Jvm.Cond.code ({ cls := "BlinkMesh$Mesh", name := "lampsOn", desc := "()I" } : Jvm.MethodName) prog_3_method_12_code (1 : Nat) (Option.some Jvm.ClassFile.FieldType.int)) ∈ gtbl := gw 213 (by decide +kernel) rfl
theorem k214 : (Jvm.Cond.methodLink "BlinkMeshLaw" (28 : Nat) ({ cls := "BlinkMesh", name := "link", desc := "(IIZ)I" } : Jvm.MethodName)) ∈ gtbl := gw 214 (by decide +kernel) rfl
theorem k215 : (Jvm.Cond.instanceMethod ({ cls := "BlinkMesh", name := "link", desc := "(IIZ)I" } : Jvm.MethodName)) ∈ gtbl := gw 215 (by decide +kernel) rfl
theorem k216 : (Jvm.Cond.selects "BlinkMesh" ({ cls := "BlinkMesh", name := "link", desc := "(IIZ)I" } : Jvm.MethodName) ({ cls := "BlinkMesh", name := "link", desc := "(IIZ)I" } : Jvm.MethodName)) ∈ gtbl := gw 216 (by decide +kernel) rfl
theorem k217 : (Jvm.Cond.code ({ cls := "BlinkMesh", name := "link", desc := "(IIZ)I" } : Jvm.MethodName) prog_1_method_5_code (4 : Nat) (Option.some Jvm.ClassFile.FieldType.int)) ∈ gtbl := gw 217 (by decide +kernel) rfl
theorem k218 : (Jvm.Cond.methodLink "BlinkMesh" (76 : Nat) ({ cls := "BlinkMesh$Mesh", name := "isLinked", desc := "(II)Z" } : Jvm.MethodName)) ∈ gtbl := gw 218 (by decide +kernel) rfl
theorem k219 : (Jvm.Cond.instanceMethod ({ cls := "BlinkMesh$Mesh", name := "isLinked", desc := "(II)Z" } : Jvm.MethodName)) ∈ gtbl := gw 219 (by decide +kernel) rfl
theorem k220 : (Jvm.Cond.selects "BlinkMesh$Mesh" ({ cls := "BlinkMesh$Mesh", name := "isLinked", desc := "(II)Z" } : Jvm.MethodName) ({ cls := "BlinkMesh$Mesh", name := "isLinked", desc := "(II)Z" } : Jvm.MethodName)) ∈ gtbl := gw 220 (by decide +kernel) rfl
theorem k221 : (Jvm.Cond.code ({ cls := "BlinkMesh$Mesh", name := "isLinked", desc := "(II)Z" } : Jvm.MethodName) prog_3_method_5_code (3 : Nat) (Option.some Jvm.ClassFile.FieldType.boolean)) ∈ gtbl := gw 221 (by decide +kernel) rfl
theorem k222 : (Jvm.Cond.methodLink "BlinkMesh" (80 : Nat) ({ cls := "BlinkMesh$Mesh", name := "changeLink", desc := "(IIZ)V" } : Jvm.MethodName)) ∈ gtbl := gw 222 (by decide +kernel) rfl
theorem k223 : (Jvm.Cond.instanceMethod ({ cls := "BlinkMesh$Mesh", name := "changeLink", desc := "(IIZ)V" } : Jvm.MethodName)) ∈ gtbl := gw 223 (by decide +kernel) rfl
theorem k224 : (Jvm.Cond.selects "BlinkMesh$Mesh" ({ cls := "BlinkMesh$Mesh", name := "changeLink", desc := "(IIZ)V" } : Jvm.MethodName) ({ cls := "BlinkMesh$Mesh", name := "changeLink", desc := "(IIZ)V" } : Jvm.MethodName)) ∈ gtbl := gw 224 (by decide +kernel) rfl
theorem k225 : (Jvm.Cond.code ({ cls := "BlinkMesh$Mesh", name := "changeLink", desc := "(IIZ)V" } : Jvm.MethodName) prog_3_method_19_code (4 : Nat) (Option.none : Option Jvm.ClassFile.FieldType)) ∈ gtbl := gw 225 (by decide +kernel) rfl
theorem k226 : (Jvm.Cond.methodLink "BlinkMesh" (84 : Nat) ({ cls := "BlinkMesh$Mesh", name := "links", desc := "()I" } : Jvm.MethodName)) ∈ gtbl := gw 226 (by decide +kernel) rfl
theorem k227 : (Jvm.Cond.instanceMethod ({ cls := "BlinkMesh$Mesh", name := "links", desc := "()I" } : Jvm.MethodName)) ∈ gtbl := gw 227 (by decide +kernel) rfl
theorem k228 : (Jvm.Cond.selects "BlinkMesh$Mesh" ({ cls := "BlinkMesh$Mesh", name := "links", desc := "()I" } : Jvm.MethodName) ({ cls := "BlinkMesh$Mesh", name := "links", desc := "()I" } : Jvm.MethodName)) ∈ gtbl := gw 228 (by decide +kernel) rfl
theorem k229 : (Jvm.Cond.code ({ cls := "BlinkMesh$Mesh", name := "links", desc := "()I" } : Jvm.MethodName) prog_3_method_13_code (3 : Nat) (Option.some Jvm.ClassFile.FieldType.int)) ∈ gtbl := gw 229 (by decide +kernel) rfl
theorem k230 : (Jvm.Cond.methodLink "BlinkMeshLaw" (33 : Nat) ({ cls := "BlinkMesh", name := "tune", desc := "(III)I" } : Jvm.MethodName)) ∈ gtbl := gw 230 (by decide +kernel) rfl
theorem k231 : (Jvm.Cond.instanceMethod ({ cls := "BlinkMesh", name := "tune", desc := "(III)I" } : Jvm.MethodName)) ∈ gtbl := gw 231 (by decide +kernel) rfl
theorem k232 : (Jvm.Cond.selects "BlinkMesh" ({ cls := "BlinkMesh", name := "tune", desc := "(III)I" } : Jvm.MethodName) ({ cls := "BlinkMesh", name := "tune", desc := "(III)I" } : Jvm.MethodName)) ∈ gtbl := gw 232 (by decide +kernel) rfl
theorem k233 : (Jvm.Cond.code ({ cls := "BlinkMesh", name := "tune", desc := "(III)I" } : Jvm.MethodName) prog_1_method_6_code (4 : Nat) (Option.some Jvm.ClassFile.FieldType.int)) ∈ gtbl := gw 233 (by decide +kernel) rfl
theorem k234 : (Jvm.Cond.methodLink "BlinkMesh" (87 : Nat) ({ cls := "BlinkMesh$Mesh", name := "retune", desc := "(III)I" } : Jvm.MethodName)) ∈ gtbl := gw 234 (by decide +kernel) rfl
theorem k235 : (Jvm.Cond.instanceMethod ({ cls := "BlinkMesh$Mesh", name := "retune", desc := "(III)I" } : Jvm.MethodName)) ∈ gtbl := gw 235 (by decide +kernel) rfl
theorem k236 : (Jvm.Cond.selects "BlinkMesh$Mesh" ({ cls := "BlinkMesh$Mesh", name := "retune", desc := "(III)I" } : Jvm.MethodName) ({ cls := "BlinkMesh$Mesh", name := "retune", desc := "(III)I" } : Jvm.MethodName)) ∈ gtbl := gw 236 (by decide +kernel) rfl
theorem k237 : (Jvm.Cond.code ({ cls := "BlinkMesh$Mesh", name := "retune", desc := "(III)I" } : Jvm.MethodName) prog_3_method_20_code (5 : Nat) (Option.some Jvm.ClassFile.FieldType.int)) ∈ gtbl := gw 237 (by decide +kernel) rfl
theorem k238 : (Jvm.Cond.methodLink "BlinkMeshLaw" (38 : Nat) ({ cls := "BlinkMesh", name := "set", desc := "(II)I" } : Jvm.MethodName)) ∈ gtbl := gw 238 (by decide +kernel) rfl
theorem k239 : (Jvm.Cond.instanceMethod ({ cls := "BlinkMesh", name := "set", desc := "(II)I" } : Jvm.MethodName)) ∈ gtbl := gw 239 (by decide +kernel) rfl
theorem k240 : (Jvm.Cond.selects "BlinkMesh" ({ cls := "BlinkMesh", name := "set", desc := "(II)I" } : Jvm.MethodName) ({ cls := "BlinkMesh", name := "set", desc := "(II)I" } : Jvm.MethodName)) ∈ gtbl := gw 240 (by decide +kernel) rfl
theorem k241 : (Jvm.Cond.code ({ cls := "BlinkMesh", name := "set", desc := "(II)I" } : Jvm.MethodName) prog_1_method_7_code (3 : Nat) (Option.some Jvm.ClassFile.FieldType.int)) ∈ gtbl := gw 241 (by decide +kernel) rfl
theorem k242 : (Jvm.Cond.fieldLink "BlinkMesh" (91 : Nat) "BlinkMesh" "LEAST_SETTING" "[I") ∈ gtbl := gw 242 (by decide +kernel) rfl
theorem k244 : (Jvm.Cond.fieldLink "BlinkMesh" (95 : Nat) "BlinkMesh" "GREATEST_SETTING" "[I") ∈ gtbl := gw 244 (by decide +kernel) rfl
theorem k246 : (Jvm.Cond.methodLink "BlinkMesh" (98 : Nat) ({ cls := "BlinkMesh$Mesh", name := "setting", desc := "(I)I" } : Jvm.MethodName)) ∈ gtbl := gw 246 (by decide +kernel) rfl
theorem k247 : (Jvm.Cond.instanceMethod ({ cls := "BlinkMesh$Mesh", name := "setting", desc := "(I)I" } : Jvm.MethodName)) ∈ gtbl := gw 247 (by decide +kernel) rfl
theorem k248 : (Jvm.Cond.selects "BlinkMesh$Mesh" ({ cls := "BlinkMesh$Mesh", name := "setting", desc := "(I)I" } : Jvm.MethodName) ({ cls := "BlinkMesh$Mesh", name := "setting", desc := "(I)I" } : Jvm.MethodName)) ∈ gtbl := gw 248 (by decide +kernel) rfl
theorem k249 : (Jvm.Cond.code ({ cls := "BlinkMesh$Mesh", name := "setting", desc := "(I)I" } : Jvm.MethodName) prog_3_method_8_code (2 : Nat) (Option.some Jvm.ClassFile.FieldType.int)) ∈ gtbl := gw 249 (by decide +kernel) rfl
theorem k250 : (Jvm.Cond.methodLink "BlinkMesh" (101 : Nat) ({ cls := "BlinkMesh$Mesh", name := "changeSetting", desc := "(II)I" } : Jvm.MethodName)) ∈ gtbl := gw 250 (by decide +kernel) rfl
theorem k251 : (Jvm.Cond.instanceMethod ({ cls := "BlinkMesh$Mesh", name := "changeSetting", desc := "(II)I" } : Jvm.MethodName)) ∈ gtbl := gw 251 (by decide +kernel) rfl
theorem k252 : (Jvm.Cond.selects "BlinkMesh$Mesh" ({ cls := "BlinkMesh$Mesh", name := "changeSetting", desc := "(II)I" } : Jvm.MethodName) ({ cls := "BlinkMesh$Mesh", name := "changeSetting", desc := "(II)I" } : Jvm.MethodName)) ∈ gtbl := gw 252 (by decide +kernel) rfl
theorem k253 : (Jvm.Cond.code ({ cls := "BlinkMesh$Mesh", name := "changeSetting", desc := "(II)I" } : Jvm.MethodName) prog_3_method_21_code (4 : Nat) (Option.some Jvm.ClassFile.FieldType.int)) ∈ gtbl := gw 253 (by decide +kernel) rfl
theorem k254 : (Jvm.Cond.methodLink "BlinkMesh$Mesh" (89 : Nat) ({ cls := "BlinkMesh$Mesh", name := "fitPhases", desc := "()V" } : Jvm.MethodName)) ∈ gtbl := gw 254 (by decide +kernel) rfl
theorem k255 : (Jvm.Cond.instanceMethod ({ cls := "BlinkMesh$Mesh", name := "fitPhases", desc := "()V" } : Jvm.MethodName)) ∈ gtbl := gw 255 (by decide +kernel) rfl
theorem k256 : (Jvm.Cond.selects "BlinkMesh$Mesh" ({ cls := "BlinkMesh$Mesh", name := "fitPhases", desc := "()V" } : Jvm.MethodName) ({ cls := "BlinkMesh$Mesh", name := "fitPhases", desc := "()V" } : Jvm.MethodName)) ∈ gtbl := gw 256 (by decide +kernel) rfl
theorem k257 : (Jvm.Cond.code ({ cls := "BlinkMesh$Mesh", name := "fitPhases", desc := "()V" } : Jvm.MethodName) prog_3_method_22_code (2 : Nat) (Option.none : Option Jvm.ClassFile.FieldType)) ∈ gtbl := gw 257 (by decide +kernel) rfl
theorem k258 : (Jvm.Cond.methodLink "BlinkMesh$Mesh" (92 : Nat) ({ cls := "BlinkMesh$Mesh", name := "fullPhase", desc := "()I" } : Jvm.MethodName)) ∈ gtbl := gw 258 (by decide +kernel) rfl
theorem k260 : (Jvm.Cond.instanceMethod ({ cls := "BlinkMesh$Mesh", name := "fullPhase", desc := "()I" } : Jvm.MethodName)) ∈ gtbl := gw 260 (by decide +kernel) rfl
theorem k261 : (Jvm.Cond.code ({ cls := "BlinkMesh$Mesh", name := "fullPhase", desc := "()I" } : Jvm.MethodName) prog_3_method_23_code (1 : Nat) (Option.some Jvm.ClassFile.FieldType.int)) ∈ gtbl := gw 261 (by decide +kernel) rfl
theorem k262 : (Jvm.Cond.methodLink "BlinkMesh$Mesh" (96 : Nat) ({ cls := "java/lang/Math", name := "min", desc := "(II)I" } : Jvm.MethodName)) ∈ gtbl := gw 262 (by decide +kernel) rfl
theorem k263 : (Jvm.Cond.static ({ cls := "java/lang/Math", name := "min", desc := "(II)I" } : Jvm.MethodName)) ∈ gtbl := gw 263 (by decide +kernel) rfl
theorem k264 : (Jvm.Cond.code ({ cls := "java/lang/Math", name := "min", desc := "(II)I" } : Jvm.MethodName) prog_9_method_69_code (2 : Nat) (Option.some Jvm.ClassFile.FieldType.int)) ∈ gtbl := gw 264 (by decide +kernel) rfl
theorem k265 : (Jvm.Cond.methodLink "BlinkMeshLaw" (42 : Nat) ({ cls := "BlinkMesh", name := "pass", desc := "(I)I" } : Jvm.MethodName)) ∈ gtbl := gw 265 (by decide +kernel) rfl
theorem k266 : (Jvm.Cond.instanceMethod ({ cls := "BlinkMesh", name := "pass", desc := "(I)I" } : Jvm.MethodName)) ∈ gtbl := gw 266 (by decide +kernel) rfl
theorem k267 : (Jvm.Cond.selects "BlinkMesh" ({ cls := "BlinkMesh", name := "pass", desc := "(I)I" } : Jvm.MethodName) ({ cls := "BlinkMesh", name := "pass", desc := "(I)I" } : Jvm.MethodName)) ∈ gtbl := gw 267 (by decide +kernel) rfl
theorem k268 : (Jvm.Cond.code ({ cls := "BlinkMesh", name := "pass", desc := "(I)I" } : Jvm.MethodName) prog_1_method_8_code (3 : Nat) (Option.some Jvm.ClassFile.FieldType.int)) ∈ gtbl := gw 268 (by decide +kernel) rfl
theorem k269 : (Jvm.Cond.methodLink "BlinkMesh" (105 : Nat) ({ cls := "BlinkMesh$Mesh", name := "tickNumber", desc := "()I" } : Jvm.MethodName)) ∈ gtbl := gw 269 (by decide +kernel) rfl
theorem k270 : (Jvm.Cond.instanceMethod ({ cls := "BlinkMesh$Mesh", name := "tickNumber", desc := "()I" } : Jvm.MethodName)) ∈ gtbl := gw 270 (by decide +kernel) rfl
theorem k271 : (Jvm.Cond.selects "BlinkMesh$Mesh" ({ cls := "BlinkMesh$Mesh", name := "tickNumber", desc := "()I" } : Jvm.MethodName) ({ cls := "BlinkMesh$Mesh", name := "tickNumber", desc := "()I" } : Jvm.MethodName)) ∈ gtbl := gw 271 (by decide +kernel) rfl
theorem k272 : (Jvm.Cond.code ({ cls := "BlinkMesh$Mesh", name := "tickNumber", desc := "()I" } : Jvm.MethodName) prog_3_method_9_code (1 : Nat) (Option.some Jvm.ClassFile.FieldType.int)) ∈ gtbl := gw 272 (by decide +kernel) rfl
theorem k273 : (Jvm.Cond.constant "BlinkMesh" (108 : Nat) (99999 : Int32)) ∈ gtbl := gw 273 (by decide +kernel) rfl
theorem k274 : (Jvm.Cond.methodLink "BlinkMesh" (109 : Nat) ({ cls := "BlinkMesh$Mesh", name := "allBlinks", desc := "()I" } : Jvm.MethodName)) ∈ gtbl := gw 274 (by decide +kernel) rfl
theorem k275 : (Jvm.Cond.instanceMethod ({ cls := "BlinkMesh$Mesh", name := "allBlinks", desc := "()I" } : Jvm.MethodName)) ∈ gtbl := gw 275 (by decide +kernel) rfl
theorem k276 : (Jvm.Cond.selects "BlinkMesh$Mesh" ({ cls := "BlinkMesh$Mesh", name := "allBlinks", desc := "()I" } : Jvm.MethodName) ({ cls := "BlinkMesh$Mesh", name := "allBlinks", desc := "()I" } : Jvm.MethodName)) ∈ gtbl := gw 276 (by decide +kernel) rfl
theorem k277 : (Jvm.Cond.code ({ cls := "BlinkMesh$Mesh", name := "allBlinks", desc := "()I" } : Jvm.MethodName) prog_3_method_10_code (1 : Nat) (Option.some Jvm.ClassFile.FieldType.int)) ∈ gtbl := gw 277 (by decide +kernel) rfl
theorem k278 : (Jvm.Cond.methodLink "BlinkMesh" (112 : Nat) ({ cls := "BlinkMesh$Mesh", name := "tickOften", desc := "(I)V" } : Jvm.MethodName)) ∈ gtbl := gw 278 (by decide +kernel) rfl
theorem k279 : (Jvm.Cond.instanceMethod ({ cls := "BlinkMesh$Mesh", name := "tickOften", desc := "(I)V" } : Jvm.MethodName)) ∈ gtbl := gw 279 (by decide +kernel) rfl
theorem k280 : (Jvm.Cond.selects "BlinkMesh$Mesh" ({ cls := "BlinkMesh$Mesh", name := "tickOften", desc := "(I)V" } : Jvm.MethodName) ({ cls := "BlinkMesh$Mesh", name := "tickOften", desc := "(I)V" } : Jvm.MethodName)) ∈ gtbl := gw 280 (by decide +kernel) rfl
theorem k281 : (Jvm.Cond.code ({ cls := "BlinkMesh$Mesh", name := "tickOften", desc := "(I)V" } : Jvm.MethodName) prog_3_method_24_code (3 : Nat) (Option.none : Option Jvm.ClassFile.FieldType)) ∈ gtbl := gw 281 (by decide +kernel) rfl
theorem k282 : (Jvm.Cond.methodLink "BlinkMesh$Mesh" (102 : Nat) ({ cls := "BlinkMesh$Mesh", name := "tickOnce", desc := "()I" } : Jvm.MethodName)) ∈ gtbl := gw 282 (by decide +kernel) rfl
theorem k283 : (Jvm.Cond.instanceMethod ({ cls := "BlinkMesh$Mesh", name := "tickOnce", desc := "()I" } : Jvm.MethodName)) ∈ gtbl := gw 283 (by decide +kernel) rfl
theorem k284 : (Jvm.Cond.selects "BlinkMesh$Mesh" ({ cls := "BlinkMesh$Mesh", name := "tickOnce", desc := "()I" } : Jvm.MethodName) ({ cls := "BlinkMesh$Mesh", name := "tickOnce", desc := "()I" } : Jvm.MethodName)) ∈ gtbl := gw 284 (by decide +kernel) rfl
theorem k285 : (Jvm.Cond.code ({ cls := "BlinkMesh$Mesh", name := "tickOnce", desc := "()I" } : Jvm.MethodName) prog_3_method_25_code (4 : Nat) (Option.some Jvm.ClassFile.FieldType.int)) ∈ gtbl := gw 285 (by decide +kernel) rfl
theorem k286 : (Jvm.Cond.methodLink "BlinkMesh$Mesh" (105 : Nat) ({ cls := "BlinkMesh$Mesh", name := "grow", desc := "()I" } : Jvm.MethodName)) ∈ gtbl := gw 286 (by decide +kernel) rfl
theorem k288 : (Jvm.Cond.instanceMethod ({ cls := "BlinkMesh$Mesh", name := "grow", desc := "()I" } : Jvm.MethodName)) ∈ gtbl := gw 288 (by decide +kernel) rfl
theorem k289 : (Jvm.Cond.code ({ cls := "BlinkMesh$Mesh", name := "grow", desc := "()I" } : Jvm.MethodName) prog_3_method_26_code (4 : Nat) (Option.some Jvm.ClassFile.FieldType.int)) ∈ gtbl := gw 289 (by decide +kernel) rfl
theorem k290 : (Jvm.Cond.methodLink "BlinkMesh$Mesh" (108 : Nat) ({ cls := "BlinkMesh$Mesh", name := "blink", desc := "(I)V" } : Jvm.MethodName)) ∈ gtbl := gw 290 (by decide +kernel) rfl
theorem k292 : (Jvm.Cond.instanceMethod ({ cls := "BlinkMesh$Mesh", name := "blink", desc := "(I)V" } : Jvm.MethodName)) ∈ gtbl := gw 292 (by decide +kernel) rfl
theorem k293 : (Jvm.Cond.code ({ cls := "BlinkMesh$Mesh", name := "blink", desc := "(I)V" } : Jvm.MethodName) prog_3_method_27_code (3 : Nat) (Option.none : Option Jvm.ClassFile.FieldType)) ∈ gtbl := gw 293 (by decide +kernel) rfl
theorem k294 : (Jvm.Cond.methodLink "BlinkMesh$Mesh" (112 : Nat) ({ cls := "BlinkMesh$Mesh", name := "pushFrom", desc := "(II)I" } : Jvm.MethodName)) ∈ gtbl := gw 294 (by decide +kernel) rfl
theorem k296 : (Jvm.Cond.instanceMethod ({ cls := "BlinkMesh$Mesh", name := "pushFrom", desc := "(II)I" } : Jvm.MethodName)) ∈ gtbl := gw 296 (by decide +kernel) rfl
theorem k297 : (Jvm.Cond.code ({ cls := "BlinkMesh$Mesh", name := "pushFrom", desc := "(II)I" } : Jvm.MethodName) prog_3_method_28_code (5 : Nat) (Option.some Jvm.ClassFile.FieldType.int)) ∈ gtbl := gw 297 (by decide +kernel) rfl
theorem k298 : (Jvm.Cond.methodLink "BlinkMesh$Mesh" (118 : Nat) ({ cls := "BlinkMesh$Mesh", name := "pushAll", desc := "(I)I" } : Jvm.MethodName)) ∈ gtbl := gw 298 (by decide +kernel) rfl
theorem k300 : (Jvm.Cond.instanceMethod ({ cls := "BlinkMesh$Mesh", name := "pushAll", desc := "(I)I" } : Jvm.MethodName)) ∈ gtbl := gw 300 (by decide +kernel) rfl
theorem k301 : (Jvm.Cond.code ({ cls := "BlinkMesh$Mesh", name := "pushAll", desc := "(I)I" } : Jvm.MethodName) prog_3_method_29_code (6 : Nat) (Option.some Jvm.ClassFile.FieldType.int)) ∈ gtbl := gw 301 (by decide +kernel) rfl
theorem k302 : (Jvm.Cond.methodLink "BlinkMesh$Mesh" (115 : Nat) ({ cls := "BlinkMesh$Mesh", name := "account", desc := "(I)V" } : Jvm.MethodName)) ∈ gtbl := gw 302 (by decide +kernel) rfl
theorem k304 : (Jvm.Cond.instanceMethod ({ cls := "BlinkMesh$Mesh", name := "account", desc := "(I)V" } : Jvm.MethodName)) ∈ gtbl := gw 304 (by decide +kernel) rfl
theorem k305 : (Jvm.Cond.code ({ cls := "BlinkMesh$Mesh", name := "account", desc := "(I)V" } : Jvm.MethodName) prog_3_method_30_code (2 : Nat) (Option.none : Option Jvm.ClassFile.FieldType)) ∈ gtbl := gw 305 (by decide +kernel) rfl
theorem k306 : (Jvm.Cond.methodLink "BlinkMesh$Mesh" (121 : Nat) ({ cls := "java/lang/Math", name := "max", desc := "(II)I" } : Jvm.MethodName)) ∈ gtbl := gw 306 (by decide +kernel) rfl
theorem k307 : (Jvm.Cond.static ({ cls := "java/lang/Math", name := "max", desc := "(II)I" } : Jvm.MethodName)) ∈ gtbl := gw 307 (by decide +kernel) rfl
theorem k308 : (Jvm.Cond.code ({ cls := "java/lang/Math", name := "max", desc := "(II)I" } : Jvm.MethodName) prog_9_method_65_code (2 : Nat) (Option.some Jvm.ClassFile.FieldType.int)) ∈ gtbl := gw 308 (by decide +kernel) rfl
theorem k309 : (Jvm.Cond.methodLink "BlinkMeshLaw" (46 : Nat) ({ cls := "BlinkMesh", name := "type", desc := "(C)I" } : Jvm.MethodName)) ∈ gtbl := gw 309 (by decide +kernel) rfl
theorem k310 : (Jvm.Cond.instanceMethod ({ cls := "BlinkMesh", name := "type", desc := "(C)I" } : Jvm.MethodName)) ∈ gtbl := gw 310 (by decide +kernel) rfl
theorem k311 : (Jvm.Cond.selects "BlinkMesh" ({ cls := "BlinkMesh", name := "type", desc := "(C)I" } : Jvm.MethodName) ({ cls := "BlinkMesh", name := "type", desc := "(C)I" } : Jvm.MethodName)) ∈ gtbl := gw 311 (by decide +kernel) rfl
theorem k312 : (Jvm.Cond.code ({ cls := "BlinkMesh", name := "type", desc := "(C)I" } : Jvm.MethodName) prog_1_method_9_code (2 : Nat) (Option.some Jvm.ClassFile.FieldType.int)) ∈ gtbl := gw 312 (by decide +kernel) rfl
theorem k313 : (Jvm.Cond.methodLink "BlinkMesh" (116 : Nat) ({ cls := "BlinkMesh$MeshText", name := "isFull", desc := "()Z" } : Jvm.MethodName)) ∈ gtbl := gw 313 (by decide +kernel) rfl
theorem k314 : (Jvm.Cond.instanceMethod ({ cls := "BlinkMesh$MeshText", name := "isFull", desc := "()Z" } : Jvm.MethodName)) ∈ gtbl := gw 314 (by decide +kernel) rfl
theorem k315 : (Jvm.Cond.selects "BlinkMesh$MeshText" ({ cls := "BlinkMesh$MeshText", name := "isFull", desc := "()Z" } : Jvm.MethodName) ({ cls := "BlinkMesh$MeshText", name := "isFull", desc := "()Z" } : Jvm.MethodName)) ∈ gtbl := gw 315 (by decide +kernel) rfl
theorem k316 : (Jvm.Cond.code ({ cls := "BlinkMesh$MeshText", name := "isFull", desc := "()Z" } : Jvm.MethodName) prog_4_method_4_code (1 : Nat) (Option.some Jvm.ClassFile.FieldType.boolean)) ∈ gtbl := gw 316 (by decide +kernel) rfl
theorem k317 : (Jvm.Cond.methodLink "BlinkMesh" (120 : Nat) ({ cls := "BlinkMesh$MeshText", name := "append", desc := "(C)V" } : Jvm.MethodName)) ∈ gtbl := gw 317 (by decide +kernel) rfl
theorem k318 : (Jvm.Cond.instanceMethod ({ cls := "BlinkMesh$MeshText", name := "append", desc := "(C)V" } : Jvm.MethodName)) ∈ gtbl := gw 318 (by decide +kernel) rfl
theorem k319 : (Jvm.Cond.selects "BlinkMesh$MeshText" ({ cls := "BlinkMesh$MeshText", name := "append", desc := "(C)V" } : Jvm.MethodName) ({ cls := "BlinkMesh$MeshText", name := "append", desc := "(C)V" } : Jvm.MethodName)) ∈ gtbl := gw 319 (by decide +kernel) rfl
theorem k320 : (Jvm.Cond.code ({ cls := "BlinkMesh$MeshText", name := "append", desc := "(C)V" } : Jvm.MethodName) prog_4_method_5_code (2 : Nat) (Option.none : Option Jvm.ClassFile.FieldType)) ∈ gtbl := gw 320 (by decide +kernel) rfl
theorem k321 : (Jvm.Cond.methodLink "BlinkMesh" (124 : Nat) ({ cls := "BlinkMesh$MeshText", name := "length", desc := "()I" } : Jvm.MethodName)) ∈ gtbl := gw 321 (by decide +kernel) rfl
theorem k322 : (Jvm.Cond.instanceMethod ({ cls := "BlinkMesh$MeshText", name := "length", desc := "()I" } : Jvm.MethodName)) ∈ gtbl := gw 322 (by decide +kernel) rfl
theorem k323 : (Jvm.Cond.selects "BlinkMesh$MeshText" ({ cls := "BlinkMesh$MeshText", name := "length", desc := "()I" } : Jvm.MethodName) ({ cls := "BlinkMesh$MeshText", name := "length", desc := "()I" } : Jvm.MethodName)) ∈ gtbl := gw 323 (by decide +kernel) rfl
theorem k324 : (Jvm.Cond.code ({ cls := "BlinkMesh$MeshText", name := "length", desc := "()I" } : Jvm.MethodName) prog_4_method_2_code (1 : Nat) (Option.some Jvm.ClassFile.FieldType.int)) ∈ gtbl := gw 324 (by decide +kernel) rfl
theorem k325 : (Jvm.Cond.methodLink "BlinkMeshLaw" (51 : Nat) ({ cls := "BlinkMesh", name := "clearText", desc := "()I" } : Jvm.MethodName)) ∈ gtbl := gw 325 (by decide +kernel) rfl
theorem k326 : (Jvm.Cond.instanceMethod ({ cls := "BlinkMesh", name := "clearText", desc := "()I" } : Jvm.MethodName)) ∈ gtbl := gw 326 (by decide +kernel) rfl
theorem k327 : (Jvm.Cond.selects "BlinkMesh" ({ cls := "BlinkMesh", name := "clearText", desc := "()I" } : Jvm.MethodName) ({ cls := "BlinkMesh", name := "clearText", desc := "()I" } : Jvm.MethodName)) ∈ gtbl := gw 327 (by decide +kernel) rfl
theorem k328 : (Jvm.Cond.code ({ cls := "BlinkMesh", name := "clearText", desc := "()I" } : Jvm.MethodName) prog_1_method_10_code (2 : Nat) (Option.some Jvm.ClassFile.FieldType.int)) ∈ gtbl := gw 328 (by decide +kernel) rfl
theorem k329 : (Jvm.Cond.methodLink "BlinkMesh" (127 : Nat) ({ cls := "BlinkMesh$MeshText", name := "empty", desc := "()V" } : Jvm.MethodName)) ∈ gtbl := gw 329 (by decide +kernel) rfl
theorem k330 : (Jvm.Cond.instanceMethod ({ cls := "BlinkMesh$MeshText", name := "empty", desc := "()V" } : Jvm.MethodName)) ∈ gtbl := gw 330 (by decide +kernel) rfl
theorem k331 : (Jvm.Cond.selects "BlinkMesh$MeshText" ({ cls := "BlinkMesh$MeshText", name := "empty", desc := "()V" } : Jvm.MethodName) ({ cls := "BlinkMesh$MeshText", name := "empty", desc := "()V" } : Jvm.MethodName)) ∈ gtbl := gw 331 (by decide +kernel) rfl
theorem k332 : (Jvm.Cond.code ({ cls := "BlinkMesh$MeshText", name := "empty", desc := "()V" } : Jvm.MethodName) prog_4_method_6_code (1 : Nat) (Option.none : Option Jvm.ClassFile.FieldType)) ∈ gtbl := gw 332 (by decide +kernel) rfl
theorem k333 : (Jvm.Cond.methodLink "BlinkMeshLaw" (56 : Nat) ({ cls := "BlinkMesh", name := "readMesh", desc := "()I" } : Jvm.MethodName)) ∈ gtbl := gw 333 (by decide +kernel) rfl
theorem k334 : (Jvm.Cond.instanceMethod ({ cls := "BlinkMesh", name := "readMesh", desc := "()I" } : Jvm.MethodName)) ∈ gtbl := gw 334 (by decide +kernel) rfl
theorem k335 : (Jvm.Cond.selects "BlinkMesh" ({ cls := "BlinkMesh", name := "readMesh", desc := "()I" } : Jvm.MethodName) ({ cls := "BlinkMesh", name := "readMesh", desc := "()I" } : Jvm.MethodName)) ∈ gtbl := gw 335 (by decide +kernel) rfl
theorem k336 : (Jvm.Cond.code ({ cls := "BlinkMesh", name := "readMesh", desc := "()I" } : Jvm.MethodName) prog_1_method_11_code (1 : Nat) (Option.some Jvm.ClassFile.FieldType.int)) ∈ gtbl := gw 336 (by decide +kernel) rfl
theorem k337 : (Jvm.Cond.methodLink "BlinkMesh" (130 : Nat) ({ cls := "BlinkMesh$MeshText", name := "parse", desc := "()Z" } : Jvm.MethodName)) ∈ gtbl := gw 337 (by decide +kernel) rfl
theorem k338 : (Jvm.Cond.instanceMethod ({ cls := "BlinkMesh$MeshText", name := "parse", desc := "()Z" } : Jvm.MethodName)) ∈ gtbl := gw 338 (by decide +kernel) rfl
theorem k339 : (Jvm.Cond.selects "BlinkMesh$MeshText" ({ cls := "BlinkMesh$MeshText", name := "parse", desc := "()Z" } : Jvm.MethodName) ({ cls := "BlinkMesh$MeshText", name := "parse", desc := "()Z" } : Jvm.MethodName)) ∈ gtbl := gw 339 (by decide +kernel) rfl
theorem k340 : (Jvm.Cond.code ({ cls := "BlinkMesh$MeshText", name := "parse", desc := "()Z" } : Jvm.MethodName) prog_4_method_8_code (2 : Nat) (Option.some Jvm.ClassFile.FieldType.boolean)) ∈ gtbl := gw 340 (by decide +kernel) rfl
theorem k341 : (Jvm.Cond.methodLink "BlinkMesh$MeshText" (54 : Nat) ({ cls := "BlinkMesh$MeshText", name := "parseLamps", desc := "()Z" } : Jvm.MethodName)) ∈ gtbl := gw 341 (by decide +kernel) rfl
theorem k343 : (Jvm.Cond.instanceMethod ({ cls := "BlinkMesh$MeshText", name := "parseLamps", desc := "()Z" } : Jvm.MethodName)) ∈ gtbl := gw 343 (by decide +kernel) rfl
theorem k344 : (Jvm.Cond.code ({ cls := "BlinkMesh$MeshText", name := "parseLamps", desc := "()Z" } : Jvm.MethodName) prog_4_method_9_code (2 : Nat) (Option.some Jvm.ClassFile.FieldType.boolean)) ∈ gtbl := gw 344 (by decide +kernel) rfl
theorem k345 : (Jvm.Cond.methodLink "BlinkMesh$MeshText" (69 : Nat) ({ cls := "BlinkMesh$MeshText", name := "parseLamp", desc := "(I)Z" } : Jvm.MethodName)) ∈ gtbl := gw 345 (by decide +kernel) rfl
theorem k347 : (Jvm.Cond.instanceMethod ({ cls := "BlinkMesh$MeshText", name := "parseLamp", desc := "(I)Z" } : Jvm.MethodName)) ∈ gtbl := gw 347 (by decide +kernel) rfl
theorem k348 : (Jvm.Cond.code ({ cls := "BlinkMesh$MeshText", name := "parseLamp", desc := "(I)Z" } : Jvm.MethodName) prog_4_method_10_code (2 : Nat) (Option.some Jvm.ClassFile.FieldType.boolean)) ∈ gtbl := gw 348 (by decide +kernel) rfl
theorem k349 : (Jvm.Cond.methodLink "BlinkMesh$MeshText" (73 : Nat) ({ cls := "BlinkMesh$MeshText", name := "parseNumber", desc := "(II)I" } : Jvm.MethodName)) ∈ gtbl := gw 349 (by decide +kernel) rfl
theorem k351 : (Jvm.Cond.instanceMethod ({ cls := "BlinkMesh$MeshText", name := "parseNumber", desc := "(II)I" } : Jvm.MethodName)) ∈ gtbl := gw 351 (by decide +kernel) rfl
theorem k352 : (Jvm.Cond.code ({ cls := "BlinkMesh$MeshText", name := "parseNumber", desc := "(II)I" } : Jvm.MethodName) prog_4_method_11_code (7 : Nat) (Option.some Jvm.ClassFile.FieldType.int)) ∈ gtbl := gw 352 (by decide +kernel) rfl
theorem k353 : (Jvm.Cond.methodLink "BlinkMesh$MeshText" (58 : Nat) ({ cls := "BlinkMesh$MeshText", name := "current", desc := "()I" } : Jvm.MethodName)) ∈ gtbl := gw 353 (by decide +kernel) rfl
theorem k355 : (Jvm.Cond.instanceMethod ({ cls := "BlinkMesh$MeshText", name := "current", desc := "()I" } : Jvm.MethodName)) ∈ gtbl := gw 355 (by decide +kernel) rfl
theorem k356 : (Jvm.Cond.code ({ cls := "BlinkMesh$MeshText", name := "current", desc := "()I" } : Jvm.MethodName) prog_4_method_16_code (1 : Nat) (Option.some Jvm.ClassFile.FieldType.int)) ∈ gtbl := gw 356 (by decide +kernel) rfl
theorem k357 : (Jvm.Cond.methodLink "BlinkMesh$MeshText" (77 : Nat) ({ cls := "BlinkMesh$MeshText", name := "begins", desc := "(III)Z" } : Jvm.MethodName)) ∈ gtbl := gw 357 (by decide +kernel) rfl
theorem k358 : (Jvm.Cond.static ({ cls := "BlinkMesh$MeshText", name := "begins", desc := "(III)Z" } : Jvm.MethodName)) ∈ gtbl := gw 358 (by decide +kernel) rfl
theorem k359 : (Jvm.Cond.code ({ cls := "BlinkMesh$MeshText", name := "begins", desc := "(III)Z" } : Jvm.MethodName) prog_4_method_12_code (6 : Nat) (Option.some Jvm.ClassFile.FieldType.boolean)) ∈ gtbl := gw 359 (by decide +kernel) rfl
theorem k360 : (Jvm.Cond.methodLink "BlinkMesh$MeshText" (62 : Nat) ({ cls := "BlinkMesh$MeshText", name := "skip", desc := "(C)Z" } : Jvm.MethodName)) ∈ gtbl := gw 360 (by decide +kernel) rfl
theorem k362 : (Jvm.Cond.instanceMethod ({ cls := "BlinkMesh$MeshText", name := "skip", desc := "(C)Z" } : Jvm.MethodName)) ∈ gtbl := gw 362 (by decide +kernel) rfl
theorem k363 : (Jvm.Cond.code ({ cls := "BlinkMesh$MeshText", name := "skip", desc := "(C)Z" } : Jvm.MethodName) prog_4_method_17_code (2 : Nat) (Option.some Jvm.ClassFile.FieldType.boolean)) ∈ gtbl := gw 363 (by decide +kernel) rfl
theorem k364 : (Jvm.Cond.methodLink "BlinkMesh$MeshText" (66 : Nat) ({ cls := "BlinkMesh$MeshText", name := "parseLinks", desc := "()Z" } : Jvm.MethodName)) ∈ gtbl := gw 364 (by decide +kernel) rfl
theorem k366 : (Jvm.Cond.instanceMethod ({ cls := "BlinkMesh$MeshText", name := "parseLinks", desc := "()Z" } : Jvm.MethodName)) ∈ gtbl := gw 366 (by decide +kernel) rfl
theorem k367 : (Jvm.Cond.code ({ cls := "BlinkMesh$MeshText", name := "parseLinks", desc := "()Z" } : Jvm.MethodName) prog_4_method_13_code (2 : Nat) (Option.some Jvm.ClassFile.FieldType.boolean)) ∈ gtbl := gw 367 (by decide +kernel) rfl
theorem k368 : (Jvm.Cond.methodLink "BlinkMesh$MeshText" (81 : Nat) ({ cls := "BlinkMesh$MeshText", name := "parseLink", desc := "()Z" } : Jvm.MethodName)) ∈ gtbl := gw 368 (by decide +kernel) rfl
theorem k370 : (Jvm.Cond.instanceMethod ({ cls := "BlinkMesh$MeshText", name := "parseLink", desc := "()Z" } : Jvm.MethodName)) ∈ gtbl := gw 370 (by decide +kernel) rfl
theorem k371 : (Jvm.Cond.code ({ cls := "BlinkMesh$MeshText", name := "parseLink", desc := "()Z" } : Jvm.MethodName) prog_4_method_14_code (3 : Nat) (Option.some Jvm.ClassFile.FieldType.boolean)) ∈ gtbl := gw 371 (by decide +kernel) rfl
theorem k372 : (Jvm.Cond.methodLink "BlinkMesh$MeshText" (84 : Nat) ({ cls := "BlinkMesh$MeshText", name := "parseLetter", desc := "(I)I" } : Jvm.MethodName)) ∈ gtbl := gw 372 (by decide +kernel) rfl
theorem k374 : (Jvm.Cond.instanceMethod ({ cls := "BlinkMesh$MeshText", name := "parseLetter", desc := "(I)I" } : Jvm.MethodName)) ∈ gtbl := gw 374 (by decide +kernel) rfl
theorem k375 : (Jvm.Cond.code ({ cls := "BlinkMesh$MeshText", name := "parseLetter", desc := "(I)I" } : Jvm.MethodName) prog_4_method_15_code (3 : Nat) (Option.some Jvm.ClassFile.FieldType.int)) ∈ gtbl := gw 375 (by decide +kernel) rfl
theorem k376 : (Jvm.Cond.methodLink "BlinkMesh" (133 : Nat) ({ cls := "BlinkMesh$MeshText", name := "fault", desc := "()I" } : Jvm.MethodName)) ∈ gtbl := gw 376 (by decide +kernel) rfl
theorem k377 : (Jvm.Cond.instanceMethod ({ cls := "BlinkMesh$MeshText", name := "fault", desc := "()I" } : Jvm.MethodName)) ∈ gtbl := gw 377 (by decide +kernel) rfl
theorem k378 : (Jvm.Cond.selects "BlinkMesh$MeshText" ({ cls := "BlinkMesh$MeshText", name := "fault", desc := "()I" } : Jvm.MethodName) ({ cls := "BlinkMesh$MeshText", name := "fault", desc := "()I" } : Jvm.MethodName)) ∈ gtbl := gw 378 (by decide +kernel) rfl
theorem k379 : (Jvm.Cond.code ({ cls := "BlinkMesh$MeshText", name := "fault", desc := "()I" } : Jvm.MethodName) prog_4_method_3_code (1 : Nat) (Option.some Jvm.ClassFile.FieldType.int)) ∈ gtbl := gw 379 (by decide +kernel) rfl
theorem k380 : (Jvm.Cond.methodLink "BlinkMesh" (136 : Nat) ({ cls := "BlinkMesh$MeshText", name := "build", desc := "(LBlinkMesh$Mesh;)V" } : Jvm.MethodName)) ∈ gtbl := gw 380 (by decide +kernel) rfl
theorem k381 : (Jvm.Cond.instanceMethod ({ cls := "BlinkMesh$MeshText", name := "build", desc := "(LBlinkMesh$Mesh;)V" } : Jvm.MethodName)) ∈ gtbl := gw 381 (by decide +kernel) rfl
theorem k382 : (Jvm.Cond.selects "BlinkMesh$MeshText" ({ cls := "BlinkMesh$MeshText", name := "build", desc := "(LBlinkMesh$Mesh;)V" } : Jvm.MethodName) ({ cls := "BlinkMesh$MeshText", name := "build", desc := "(LBlinkMesh$Mesh;)V" } : Jvm.MethodName)) ∈ gtbl := gw 382 (by decide +kernel) rfl
theorem k383 : (Jvm.Cond.code ({ cls := "BlinkMesh$MeshText", name := "build", desc := "(LBlinkMesh$Mesh;)V" } : Jvm.MethodName) prog_4_method_7_code (4 : Nat) (Option.none : Option Jvm.ClassFile.FieldType)) ∈ gtbl := gw 383 (by decide +kernel) rfl
theorem k384 : (Jvm.Cond.methodLink "BlinkMesh$MeshText" (32 : Nat) ({ cls := "BlinkMesh$Mesh", name := "removeAll", desc := "()V" } : Jvm.MethodName)) ∈ gtbl := gw 384 (by decide +kernel) rfl
theorem k385 : (Jvm.Cond.instanceMethod ({ cls := "BlinkMesh$Mesh", name := "removeAll", desc := "()V" } : Jvm.MethodName)) ∈ gtbl := gw 385 (by decide +kernel) rfl
theorem k386 : (Jvm.Cond.selects "BlinkMesh$Mesh" ({ cls := "BlinkMesh$Mesh", name := "removeAll", desc := "()V" } : Jvm.MethodName) ({ cls := "BlinkMesh$Mesh", name := "removeAll", desc := "()V" } : Jvm.MethodName)) ∈ gtbl := gw 386 (by decide +kernel) rfl
theorem k387 : (Jvm.Cond.code ({ cls := "BlinkMesh$Mesh", name := "removeAll", desc := "()V" } : Jvm.MethodName) prog_3_method_17_code (2 : Nat) (Option.none : Option Jvm.ClassFile.FieldType)) ∈ gtbl := gw 387 (by decide +kernel) rfl
theorem k388 : (Jvm.Cond.methodLink "BlinkMesh$MeshText" (40 : Nat) ({ cls := "BlinkMesh$Mesh", name := "place", desc := "(III)V" } : Jvm.MethodName)) ∈ gtbl := gw 388 (by decide +kernel) rfl
theorem k390 : (Jvm.Cond.methodLink "BlinkMesh$MeshText" (47 : Nat) ({ cls := "BlinkMesh$Mesh", name := "changeLink", desc := "(IIZ)V" } : Jvm.MethodName)) ∈ gtbl := gw 390 (by decide +kernel) rfl
theorem k391 : (Jvm.Cond.methodLink "BlinkMesh$MeshText" (51 : Nat) ({ cls := "BlinkMesh$Mesh", name := "fitPhases", desc := "()V" } : Jvm.MethodName)) ∈ gtbl := gw 391 (by decide +kernel) rfl
theorem k392 : (Jvm.Cond.methodLink "BlinkMesh" (139 : Nat) ({ cls := "BlinkMesh$Mesh", name := "lamps", desc := "()I" } : Jvm.MethodName)) ∈ gtbl := gw 392 (by decide +kernel) rfl
theorem k393 : (Jvm.Cond.instanceMethod ({ cls := "BlinkMesh$Mesh", name := "lamps", desc := "()I" } : Jvm.MethodName)) ∈ gtbl := gw 393 (by decide +kernel) rfl
theorem k394 : (Jvm.Cond.selects "BlinkMesh$Mesh" ({ cls := "BlinkMesh$Mesh", name := "lamps", desc := "()I" } : Jvm.MethodName) ({ cls := "BlinkMesh$Mesh", name := "lamps", desc := "()I" } : Jvm.MethodName)) ∈ gtbl := gw 394 (by decide +kernel) rfl
theorem k395 : (Jvm.Cond.code ({ cls := "BlinkMesh$Mesh", name := "lamps", desc := "()I" } : Jvm.MethodName) prog_3_method_11_code (1 : Nat) (Option.some Jvm.ClassFile.FieldType.int)) ∈ gtbl := gw 395 (by decide +kernel) rfl
theorem k396 : (Jvm.Cond.methodLink "BlinkMeshLaw" (60 : Nat) ({ cls := "BlinkMesh", name := "undo", desc := "()I" } : Jvm.MethodName)) ∈ gtbl := gw 396 (by decide +kernel) rfl
theorem k397 : (Jvm.Cond.instanceMethod ({ cls := "BlinkMesh", name := "undo", desc := "()I" } : Jvm.MethodName)) ∈ gtbl := gw 397 (by decide +kernel) rfl
theorem k398 : (Jvm.Cond.selects "BlinkMesh" ({ cls := "BlinkMesh", name := "undo", desc := "()I" } : Jvm.MethodName) ({ cls := "BlinkMesh", name := "undo", desc := "()I" } : Jvm.MethodName)) ∈ gtbl := gw 398 (by decide +kernel) rfl
theorem k399 : (Jvm.Cond.code ({ cls := "BlinkMesh", name := "undo", desc := "()I" } : Jvm.MethodName) prog_1_method_12_code (1 : Nat) (Option.some Jvm.ClassFile.FieldType.int)) ∈ gtbl := gw 399 (by decide +kernel) rfl
theorem k400 : (Jvm.Cond.methodLink "BlinkMesh" (142 : Nat) ({ cls := "BlinkMesh$History", name := "size", desc := "()I" } : Jvm.MethodName)) ∈ gtbl := gw 400 (by decide +kernel) rfl
theorem k401 : (Jvm.Cond.instanceMethod ({ cls := "BlinkMesh$History", name := "size", desc := "()I" } : Jvm.MethodName)) ∈ gtbl := gw 401 (by decide +kernel) rfl
theorem k402 : (Jvm.Cond.selects "BlinkMesh$History" ({ cls := "BlinkMesh$History", name := "size", desc := "()I" } : Jvm.MethodName) ({ cls := "BlinkMesh$History", name := "size", desc := "()I" } : Jvm.MethodName)) ∈ gtbl := gw 402 (by decide +kernel) rfl
theorem k403 : (Jvm.Cond.code ({ cls := "BlinkMesh$History", name := "size", desc := "()I" } : Jvm.MethodName) prog_2_method_2_code (1 : Nat) (Option.some Jvm.ClassFile.FieldType.int)) ∈ gtbl := gw 403 (by decide +kernel) rfl
theorem k404 : (Jvm.Cond.methodLink "BlinkMesh" (145 : Nat) ({ cls := "BlinkMesh$History", name := "takeBack", desc := "(LBlinkMesh$Mesh;)V" } : Jvm.MethodName)) ∈ gtbl := gw 404 (by decide +kernel) rfl
theorem k405 : (Jvm.Cond.instanceMethod ({ cls := "BlinkMesh$History", name := "takeBack", desc := "(LBlinkMesh$Mesh;)V" } : Jvm.MethodName)) ∈ gtbl := gw 405 (by decide +kernel) rfl
theorem k406 : (Jvm.Cond.selects "BlinkMesh$History" ({ cls := "BlinkMesh$History", name := "takeBack", desc := "(LBlinkMesh$Mesh;)V" } : Jvm.MethodName) ({ cls := "BlinkMesh$History", name := "takeBack", desc := "(LBlinkMesh$Mesh;)V" } : Jvm.MethodName)) ∈ gtbl := gw 406 (by decide +kernel) rfl
theorem k407 : (Jvm.Cond.code ({ cls := "BlinkMesh$History", name := "takeBack", desc := "(LBlinkMesh$Mesh;)V" } : Jvm.MethodName) prog_2_method_5_code (2 : Nat) (Option.none : Option Jvm.ClassFile.FieldType)) ∈ gtbl := gw 407 (by decide +kernel) rfl
theorem k408 : (Jvm.Cond.methodLink "BlinkMeshLaw" (64 : Nat) ({ cls := "BlinkMesh", name := "keep", desc := "()I" } : Jvm.MethodName)) ∈ gtbl := gw 408 (by decide +kernel) rfl
theorem k409 : (Jvm.Cond.instanceMethod ({ cls := "BlinkMesh", name := "keep", desc := "()I" } : Jvm.MethodName)) ∈ gtbl := gw 409 (by decide +kernel) rfl
theorem k410 : (Jvm.Cond.selects "BlinkMesh" ({ cls := "BlinkMesh", name := "keep", desc := "()I" } : Jvm.MethodName) ({ cls := "BlinkMesh", name := "keep", desc := "()I" } : Jvm.MethodName)) ∈ gtbl := gw 410 (by decide +kernel) rfl
theorem k411 : (Jvm.Cond.code ({ cls := "BlinkMesh", name := "keep", desc := "()I" } : Jvm.MethodName) prog_1_method_13_code (1 : Nat) (Option.some Jvm.ClassFile.FieldType.int)) ∈ gtbl := gw 411 (by decide +kernel) rfl
theorem k412 : (Jvm.Cond.methodLink "BlinkMesh" (148 : Nat) ({ cls := "BlinkMesh$Mesh", name := "copyFrom", desc := "(LBlinkMesh$Mesh;)V" } : Jvm.MethodName)) ∈ gtbl := gw 412 (by decide +kernel) rfl
theorem k413 : (Jvm.Cond.methodLink "BlinkMeshLaw" (68 : Nat) ({ cls := "BlinkMesh", name := "restore", desc := "()I" } : Jvm.MethodName)) ∈ gtbl := gw 413 (by decide +kernel) rfl
theorem k414 : (Jvm.Cond.instanceMethod ({ cls := "BlinkMesh", name := "restore", desc := "()I" } : Jvm.MethodName)) ∈ gtbl := gw 414 (by decide +kernel) rfl
theorem k415 : (Jvm.Cond.selects "BlinkMesh" ({ cls := "BlinkMesh", name := "restore", desc := "()I" } : Jvm.MethodName) ({ cls := "BlinkMesh", name := "restore", desc := "()I" } : Jvm.MethodName)) ∈ gtbl := gw 415 (by decide +kernel) rfl
theorem k416 : (Jvm.Cond.code ({ cls := "BlinkMesh", name := "restore", desc := "()I" } : Jvm.MethodName) prog_1_method_14_code (1 : Nat) (Option.some Jvm.ClassFile.FieldType.int)) ∈ gtbl := gw 416 (by decide +kernel) rfl
theorem k417 : (Jvm.Cond.methodLink "BlinkMeshLaw" (72 : Nat) ({ cls := "BlinkMesh", name := "lamp", desc := "(II)I" } : Jvm.MethodName)) ∈ gtbl := gw 417 (by decide +kernel) rfl
theorem k418 : (Jvm.Cond.instanceMethod ({ cls := "BlinkMesh", name := "lamp", desc := "(II)I" } : Jvm.MethodName)) ∈ gtbl := gw 418 (by decide +kernel) rfl
theorem k419 : (Jvm.Cond.selects "BlinkMesh" ({ cls := "BlinkMesh", name := "lamp", desc := "(II)I" } : Jvm.MethodName) ({ cls := "BlinkMesh", name := "lamp", desc := "(II)I" } : Jvm.MethodName)) ∈ gtbl := gw 419 (by decide +kernel) rfl
theorem k420 : (Jvm.Cond.code ({ cls := "BlinkMesh", name := "lamp", desc := "(II)I" } : Jvm.MethodName) prog_1_method_15_code (3 : Nat) (Option.some Jvm.ClassFile.FieldType.int)) ∈ gtbl := gw 420 (by decide +kernel) rfl
theorem k421 : (Jvm.Cond.methodLink "BlinkMesh" (151 : Nat) ({ cls := "BlinkMesh$Mesh", name := "tellLamp", desc := "(II)I" } : Jvm.MethodName)) ∈ gtbl := gw 421 (by decide +kernel) rfl
theorem k422 : (Jvm.Cond.instanceMethod ({ cls := "BlinkMesh$Mesh", name := "tellLamp", desc := "(II)I" } : Jvm.MethodName)) ∈ gtbl := gw 422 (by decide +kernel) rfl
theorem k423 : (Jvm.Cond.selects "BlinkMesh$Mesh" ({ cls := "BlinkMesh$Mesh", name := "tellLamp", desc := "(II)I" } : Jvm.MethodName) ({ cls := "BlinkMesh$Mesh", name := "tellLamp", desc := "(II)I" } : Jvm.MethodName)) ∈ gtbl := gw 423 (by decide +kernel) rfl
theorem k424 : (Jvm.Cond.code ({ cls := "BlinkMesh$Mesh", name := "tellLamp", desc := "(II)I" } : Jvm.MethodName) prog_3_method_40_code (3 : Nat) (Option.some Jvm.ClassFile.FieldType.int)) ∈ gtbl := gw 424 (by decide +kernel) rfl
theorem k425 : (Jvm.Cond.methodLink "BlinkMesh$Mesh" (76 : Nat) ({ cls := "BlinkMesh$Mesh", name := "isOn", desc := "(I)Z" } : Jvm.MethodName)) ∈ gtbl := gw 425 (by decide +kernel) rfl
theorem k426 : (Jvm.Cond.methodLink "BlinkMesh$Mesh" (133 : Nat) ({ cls := "BlinkMesh$Mesh", name := "pieceOf", desc := "(I)I" } : Jvm.MethodName)) ∈ gtbl := gw 426 (by decide +kernel) rfl
theorem k428 : (Jvm.Cond.instanceMethod ({ cls := "BlinkMesh$Mesh", name := "pieceOf", desc := "(I)I" } : Jvm.MethodName)) ∈ gtbl := gw 428 (by decide +kernel) rfl
theorem k429 : (Jvm.Cond.code ({ cls := "BlinkMesh$Mesh", name := "pieceOf", desc := "(I)I" } : Jvm.MethodName) prog_3_method_35_code (5 : Nat) (Option.some Jvm.ClassFile.FieldType.int)) ∈ gtbl := gw 429 (by decide +kernel) rfl
theorem k430 : (Jvm.Cond.methodLink "BlinkMesh$Mesh" (130 : Nat) ({ cls := "BlinkMesh$Mesh", name := "neighbours", desc := "(I)I" } : Jvm.MethodName)) ∈ gtbl := gw 430 (by decide +kernel) rfl
theorem k432 : (Jvm.Cond.instanceMethod ({ cls := "BlinkMesh$Mesh", name := "neighbours", desc := "(I)I" } : Jvm.MethodName)) ∈ gtbl := gw 432 (by decide +kernel) rfl
theorem k433 : (Jvm.Cond.code ({ cls := "BlinkMesh$Mesh", name := "neighbours", desc := "(I)I" } : Jvm.MethodName) prog_3_method_36_code (4 : Nat) (Option.some Jvm.ClassFile.FieldType.int)) ∈ gtbl := gw 433 (by decide +kernel) rfl
theorem k434 : (Jvm.Cond.methodLink "BlinkMesh$Mesh" (136 : Nat) ({ cls := "BlinkMesh$Mesh", name := "agreeing", desc := "(I)I" } : Jvm.MethodName)) ∈ gtbl := gw 434 (by decide +kernel) rfl
theorem k436 : (Jvm.Cond.instanceMethod ({ cls := "BlinkMesh$Mesh", name := "agreeing", desc := "(I)I" } : Jvm.MethodName)) ∈ gtbl := gw 436 (by decide +kernel) rfl
theorem k437 : (Jvm.Cond.code ({ cls := "BlinkMesh$Mesh", name := "agreeing", desc := "(I)I" } : Jvm.MethodName) prog_3_method_38_code (4 : Nat) (Option.some Jvm.ClassFile.FieldType.int)) ∈ gtbl := gw 437 (by decide +kernel) rfl
theorem k438 : (Jvm.Cond.methodLink "BlinkMeshLaw" (76 : Nat) ({ cls := "BlinkMesh", name := "apart", desc := "(II)I" } : Jvm.MethodName)) ∈ gtbl := gw 438 (by decide +kernel) rfl
theorem k439 : (Jvm.Cond.instanceMethod ({ cls := "BlinkMesh", name := "apart", desc := "(II)I" } : Jvm.MethodName)) ∈ gtbl := gw 439 (by decide +kernel) rfl
theorem k440 : (Jvm.Cond.selects "BlinkMesh" ({ cls := "BlinkMesh", name := "apart", desc := "(II)I" } : Jvm.MethodName) ({ cls := "BlinkMesh", name := "apart", desc := "(II)I" } : Jvm.MethodName)) ∈ gtbl := gw 440 (by decide +kernel) rfl
