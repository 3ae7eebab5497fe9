theorem k0 : (Jvm.Cond.initialized "BlinkMeshLaw") ∈ gtbl := gw 0 (by decide +kernel) rfl
theorem k1 : (Jvm.Cond.initialized "BlinkMesh") ∈ gtbl := gw 1 (by decide +kernel) rfl
theorem k2 : (Jvm.Cond.initialized "BlinkMesh$Mesh") ∈ gtbl := gw 2 (by decide +kernel) rfl
theorem k3 : (Jvm.Cond.initialized "BlinkMesh$History") ∈ gtbl := gw 3 (by decide +kernel) rfl
theorem k4 : (Jvm.Cond.initialized "BlinkMesh$MeshText") ∈ gtbl := gw 4 (by decide +kernel) rfl
theorem k5 : (Jvm.Cond.initialized "java/lang/Math") ∈ gtbl := gw 5 (by decide +kernel) rfl
theorem k6 : (Jvm.Cond.initialized "java/lang/Integer") ∈ gtbl := gw 6 (by decide +kernel) rfl
theorem k7 : (Jvm.Cond.initialized "java/lang/System") ∈ gtbl := gw 7 (by decide +kernel) rfl
theorem k8 : (Jvm.Cond.classLink "BlinkMeshLaw" (11 : Nat) "BlinkMesh") ∈ gtbl := gw 8 (by decide +kernel) rfl
theorem k9 : (Jvm.Cond.instantiable "BlinkMesh" (6 : Nat)) ∈ gtbl := gw 9 (by decide +kernel) rfl
theorem k10 : (Jvm.Cond.methodLink "BlinkMeshLaw" (112 : Nat) ({ cls := "BlinkMesh", name := "<init>", desc := "()V" } : Jvm.MethodName)) ∈ gtbl := gw 10 (by decide +kernel) rfl
theorem k11 : (Jvm.Cond.instanceMethod ({ cls := "BlinkMesh", name := "<init>", desc := "()V" } : Jvm.MethodName)) ∈ gtbl := gw 11 (by decide +kernel) rfl
theorem k12 : (Jvm.Cond.code ({ cls := "BlinkMesh", name := "<init>", desc := "()V" } : Jvm.MethodName) prog_1_method_1_code (1 : Nat) (Option.none : Option Jvm.ClassFile.FieldType)) ∈ gtbl := gw 12 (by decide +kernel) rfl
theorem k13 : (Jvm.Cond.methodLink "BlinkMesh" (1 : Nat) ({ cls := "java/lang/Object", name := "<init>", desc := "()V" } : Jvm.MethodName)) ∈ gtbl := gw 13 (by decide +kernel) rfl
theorem k14 : (Jvm.Cond.instanceMethod ({ cls := "java/lang/Object", name := "<init>", desc := "()V" } : Jvm.MethodName)) ∈ gtbl := gw 14 (by decide +kernel) rfl
theorem k15 : (Jvm.Cond.code ({ cls := "java/lang/Object", name := "<init>", desc := "()V" } : Jvm.MethodName) object_method_1_code (1 : Nat) (Option.none : Option Jvm.ClassFile.FieldType)) ∈ gtbl := gw 15 (by decide +kernel) rfl
theorem k16 : (Jvm.Cond.classLink "BlinkMesh" (7 : Nat) "BlinkMesh$Mesh") ∈ gtbl := gw 16 (by decide +kernel) rfl
theorem k17 : (Jvm.Cond.instantiable "BlinkMesh$Mesh" (15 : Nat)) ∈ gtbl := gw 17 (by decide +kernel) rfl
theorem k19 : (Jvm.Cond.instanceMethod ({ cls := "BlinkMesh$Mesh", name := "<init>", desc := "()V" } : Jvm.MethodName)) ∈ gtbl := gw 19 (by decide +kernel) rfl
theorem k20 : (Jvm.Cond.code ({ cls := "BlinkMesh$Mesh", name := "<init>", desc := "()V" } : Jvm.MethodName) prog_3_method_1_code (1 : Nat) (Option.none : Option Jvm.ClassFile.FieldType)) ∈ gtbl := gw 20 (by decide +kernel) rfl
theorem k21 : (Jvm.Cond.methodLink "BlinkMesh$Mesh" (3 : Nat) ({ cls := "java/lang/Object", name := "<init>", desc := "()V" } : Jvm.MethodName)) ∈ gtbl := gw 21 (by decide +kernel) rfl
theorem k24 : (Jvm.Cond.methodLink "BlinkMesh$Mesh" (36 : Nat) ({ cls := "[I", name := "clone", desc := "()Ljava/lang/Object;" } : Jvm.MethodName)) ∈ gtbl := gw 24 (by decide +kernel) rfl
theorem k26 : (Jvm.Cond.native ({ cls := "java/lang/Object", name := "clone", desc := "()Ljava/lang/Object;" } : Jvm.MethodName)) ∈ gtbl := gw 26 (by decide +kernel) rfl
theorem k27 : (Jvm.Cond.instanceMethod ({ cls := "java/lang/Object", name := "clone", desc := "()Ljava/lang/Object;" } : Jvm.MethodName)) ∈ gtbl := gw 27 (by decide +kernel) rfl
theorem k28 : (Jvm.Cond.selects "[I" ({ cls := "[I", name := "clone", desc := "()Ljava/lang/Object;" } : Jvm.MethodName) ({ cls := "java/lang/Object", name := "clone", desc := "()Ljava/lang/Object;" } : Jvm.MethodName)) ∈ gtbl := gw 28 (by decide +kernel) rfl
theorem k30 : (Jvm.Cond.classLink "BlinkMesh$Mesh" (37 : Nat) "[I") ∈ gtbl := gw 30 (by decide +kernel) rfl
theorem k31 : (Jvm.Cond.fieldLink "BlinkMesh$Mesh" (9 : Nat) "BlinkMesh$Mesh" "phase" "[I") ∈ gtbl := gw 31 (by decide +kernel) rfl
theorem k32 : (Jvm.Cond.fieldLink "BlinkMesh$Mesh" (15 : Nat) "BlinkMesh$Mesh" "rate" "[I") ∈ gtbl := gw 32 (by decide +kernel) rfl
theorem k33 : (Jvm.Cond.fieldLink "BlinkMesh$Mesh" (18 : Nat) "BlinkMesh$Mesh" "deaf" "[I") ∈ gtbl := gw 33 (by decide +kernel) rfl
theorem k34 : (Jvm.Cond.fieldLink "BlinkMesh$Mesh" (21 : Nat) "BlinkMesh$Mesh" "linked" "[I") ∈ gtbl := gw 34 (by decide +kernel) rfl
theorem k35 : (Jvm.Cond.fieldLink "BlinkMesh$Mesh" (24 : Nat) "BlinkMesh$Mesh" "blinks" "[I") ∈ gtbl := gw 35 (by decide +kernel) rfl
theorem k36 : (Jvm.Cond.fieldLink "BlinkMesh$Mesh" (27 : Nat) "BlinkMesh$Mesh" "latest" "[I") ∈ gtbl := gw 36 (by decide +kernel) rfl
theorem k37 : (Jvm.Cond.fieldLink "BlinkMesh$Mesh" (30 : Nat) "BlinkMesh$Mesh" "pushes" "[I") ∈ gtbl := gw 37 (by decide +kernel) rfl
theorem k38 : (Jvm.Cond.fieldLink "BlinkMesh$Mesh" (41 : Nat) "BlinkMesh$Mesh" "settings" "[I") ∈ gtbl := gw 38 (by decide +kernel) rfl
theorem k39 : (Jvm.Cond.fieldLink "BlinkMesh$Mesh" (50 : Nat) "BlinkMesh$Mesh" "there" "I") ∈ gtbl := gw 39 (by decide +kernel) rfl
theorem k40 : (Jvm.Cond.fieldLink "BlinkMesh$Mesh" (54 : Nat) "BlinkMesh$Mesh" "on" "I") ∈ gtbl := gw 40 (by decide +kernel) rfl
theorem k41 : (Jvm.Cond.fieldLink "BlinkMesh$Mesh" (57 : Nat) "BlinkMesh$Mesh" "tick" "I") ∈ gtbl := gw 41 (by decide +kernel) rfl
theorem k42 : (Jvm.Cond.fieldLink "BlinkMesh$Mesh" (60 : Nat) "BlinkMesh$Mesh" "blinkCount" "I") ∈ gtbl := gw 42 (by decide +kernel) rfl
theorem k43 : (Jvm.Cond.fieldLink "BlinkMesh$Mesh" (63 : Nat) "BlinkMesh$Mesh" "pushCount" "I") ∈ gtbl := gw 43 (by decide +kernel) rfl
theorem k44 : (Jvm.Cond.fieldLink "BlinkMesh$Mesh" (66 : Nat) "BlinkMesh$Mesh" "sharedTicks" "I") ∈ gtbl := gw 44 (by decide +kernel) rfl
theorem k45 : (Jvm.Cond.fieldLink "BlinkMesh$Mesh" (69 : Nat) "BlinkMesh$Mesh" "mostTogether" "I") ∈ gtbl := gw 45 (by decide +kernel) rfl
theorem k77 : (Jvm.Cond.arrayClass Jvm.ClassFile.FieldType.int) ∈ gtbl := gw 77 (by decide +kernel) rfl
theorem k78 : (Jvm.Cond.classLink "BlinkMesh" (26 : Nat) "BlinkMesh$History") ∈ gtbl := gw 78 (by decide +kernel) rfl
theorem k79 : (Jvm.Cond.instantiable "BlinkMesh$History" (2 : Nat)) ∈ gtbl := gw 79 (by decide +kernel) rfl
theorem k80 : (Jvm.Cond.methodLink "BlinkMesh" (28 : Nat) ({ cls := "BlinkMesh$History", name := "<init>", desc := "()V" } : Jvm.MethodName)) ∈ gtbl := gw 80 (by decide +kernel) rfl
theorem k81 : (Jvm.Cond.instanceMethod ({ cls := "BlinkMesh$History", name := "<init>", desc := "()V" } : Jvm.MethodName)) ∈ gtbl := gw 81 (by decide +kernel) rfl
theorem k82 : (Jvm.Cond.code ({ cls := "BlinkMesh$History", name := "<init>", desc := "()V" } : Jvm.MethodName) prog_2_method_1_code (2 : Nat) (Option.none : Option Jvm.ClassFile.FieldType)) ∈ gtbl := gw 82 (by decide +kernel) rfl
theorem k83 : (Jvm.Cond.methodLink "BlinkMesh$History" (3 : Nat) ({ cls := "java/lang/Object", name := "<init>", desc := "()V" } : Jvm.MethodName)) ∈ gtbl := gw 83 (by decide +kernel) rfl
theorem k84 : (Jvm.Cond.classLink "BlinkMesh$History" (9 : Nat) "BlinkMesh$Mesh") ∈ gtbl := gw 84 (by decide +kernel) rfl
theorem k87 : (Jvm.Cond.fieldLink "BlinkMesh$History" (11 : Nat) "BlinkMesh$History" "states" "[LBlinkMesh$Mesh;") ∈ gtbl := gw 87 (by decide +kernel) rfl
theorem k88 : (Jvm.Cond.fieldLink "BlinkMesh$History" (18 : Nat) "BlinkMesh$History" "kept" "I") ∈ gtbl := gw 88 (by decide +kernel) rfl
theorem k94 : (Jvm.Cond.classLink "BlinkMesh" (33 : Nat) "BlinkMesh$MeshText") ∈ gtbl := gw 94 (by decide +kernel) rfl
theorem k95 : (Jvm.Cond.instantiable "BlinkMesh$MeshText" (7 : Nat)) ∈ gtbl := gw 95 (by decide +kernel) rfl
theorem k97 : (Jvm.Cond.instanceMethod ({ cls := "BlinkMesh$MeshText", name := "<init>", desc := "()V" } : Jvm.MethodName)) ∈ gtbl := gw 97 (by decide +kernel) rfl
theorem k98 : (Jvm.Cond.code ({ cls := "BlinkMesh$MeshText", name := "<init>", desc := "()V" } : Jvm.MethodName) prog_4_method_1_code (1 : Nat) (Option.none : Option Jvm.ClassFile.FieldType)) ∈ gtbl := gw 98 (by decide +kernel) rfl
theorem k99 : (Jvm.Cond.methodLink "BlinkMesh$MeshText" (3 : Nat) ({ cls := "java/lang/Object", name := "<init>", desc := "()V" } : Jvm.MethodName)) ∈ gtbl := gw 99 (by decide +kernel) rfl
theorem k100 : (Jvm.Cond.fieldLink "BlinkMesh$MeshText" (9 : Nat) "BlinkMesh$MeshText" "characters" "[C") ∈ gtbl := gw 100 (by decide +kernel) rfl
theorem k101 : (Jvm.Cond.fieldLink "BlinkMesh$MeshText" (25 : Nat) "BlinkMesh$MeshText" "length" "I") ∈ gtbl := gw 101 (by decide +kernel) rfl
theorem k102 : (Jvm.Cond.fieldLink "BlinkMesh$MeshText" (15 : Nat) "BlinkMesh$MeshText" "phase" "[I") ∈ gtbl := gw 102 (by decide +kernel) rfl
theorem k103 : (Jvm.Cond.fieldLink "BlinkMesh$MeshText" (19 : Nat) "BlinkMesh$MeshText" "rate" "[I") ∈ gtbl := gw 103 (by decide +kernel) rfl
theorem k104 : (Jvm.Cond.fieldLink "BlinkMesh$MeshText" (22 : Nat) "BlinkMesh$MeshText" "linked" "[I") ∈ gtbl := gw 104 (by decide +kernel) rfl
theorem k120 : (Jvm.Cond.arrayClass Jvm.ClassFile.FieldType.char) ∈ gtbl := gw 120 (by decide +kernel) rfl
theorem k121 : (Jvm.Cond.fieldLink "BlinkMesh" (10 : Nat) "BlinkMesh" "mesh" "LBlinkMesh$Mesh;") ∈ gtbl := gw 121 (by decide +kernel) rfl
theorem k122 : (Jvm.Cond.fieldLink "BlinkMesh" (16 : Nat) "BlinkMesh" "trial" "LBlinkMesh$Mesh;") ∈ gtbl := gw 122 (by decide +kernel) rfl
theorem k123 : (Jvm.Cond.fieldLink "BlinkMesh" (19 : Nat) "BlinkMesh" "snapshot" "LBlinkMesh$Mesh;") ∈ gtbl := gw 123 (by decide +kernel) rfl
theorem k124 : (Jvm.Cond.fieldLink "BlinkMesh" (22 : Nat) "BlinkMesh" "hasSnapshot" "Z") ∈ gtbl := gw 124 (by decide +kernel) rfl
theorem k125 : (Jvm.Cond.fieldLink "BlinkMesh" (29 : Nat) "BlinkMesh" "history" "LBlinkMesh$History;") ∈ gtbl := gw 125 (by decide +kernel) rfl
theorem k126 : (Jvm.Cond.fieldLink "BlinkMesh" (36 : Nat) "BlinkMesh" "text" "LBlinkMesh$MeshText;") ∈ gtbl := gw 126 (by decide +kernel) rfl
theorem k140 : (Jvm.Cond.methodLink "BlinkMeshLaw" (116 : Nat) ({ cls := "BlinkMesh", name := "hub", desc := "()I" } : Jvm.MethodName)) ∈ gtbl := gw 140 (by decide +kernel) rfl
theorem k141 : (Jvm.Cond.instanceMethod ({ cls := "BlinkMesh", name := "hub", desc := "()I" } : Jvm.MethodName)) ∈ gtbl := gw 141 (by decide +kernel) rfl
theorem k142 : (Jvm.Cond.selects "BlinkMesh" ({ cls := "BlinkMesh", name := "hub", desc := "()I" } : Jvm.MethodName) ({ cls := "BlinkMesh", name := "hub", desc := "()I" } : Jvm.MethodName)) ∈ gtbl := gw 142 (by decide +kernel) rfl
theorem k143 : (Jvm.Cond.code ({ cls := "BlinkMesh", name := "hub", desc := "()I" } : Jvm.MethodName) prog_1_method_22_code (2 : Nat) (Option.some Jvm.ClassFile.FieldType.int)) ∈ gtbl := gw 143 (by decide +kernel) rfl
theorem k144 : (Jvm.Cond.methodLink "BlinkMesh" (175 : Nat) ({ cls := "BlinkMesh$Mesh", name := "lampWithMostLinks", desc := "()I" } : Jvm.MethodName)) ∈ gtbl := gw 144 (by decide +kernel) rfl
theorem k145 : (Jvm.Cond.instanceMethod ({ cls := "BlinkMesh$Mesh", name := "lampWithMostLinks", desc := "()I" } : Jvm.MethodName)) ∈ gtbl := gw 145 (by decide +kernel) rfl
theorem k146 : (Jvm.Cond.selects "BlinkMesh$Mesh" ({ cls := "BlinkMesh$Mesh", name := "lampWithMostLinks", desc := "()I" } : Jvm.MethodName) ({ cls := "BlinkMesh$Mesh", name := "lampWithMostLinks", desc := "()I" } : Jvm.MethodName)) ∈ gtbl := gw 146 (by decide +kernel) rfl
theorem k147 : (Jvm.Cond.code ({ cls := "BlinkMesh$Mesh", name := "lampWithMostLinks", desc := "()I" } : Jvm.MethodName) prog_3_method_39_code (5 : Nat) (Option.some Jvm.ClassFile.FieldType.int)) ∈ gtbl := gw 147 (by decide +kernel) rfl
theorem k148 : (Jvm.Cond.methodLink "BlinkMesh$Mesh" (83 : Nat) ({ cls := "java/lang/Integer", name := "bitCount", desc := "(I)I" } : Jvm.MethodName)) ∈ gtbl := gw 148 (by decide +kernel) rfl
theorem k149 : (Jvm.Cond.static ({ cls := "java/lang/Integer", name := "bitCount", desc := "(I)I" } : Jvm.MethodName)) ∈ gtbl := gw 149 (by decide +kernel) rfl
theorem k150 : (Jvm.Cond.code ({ cls := "java/lang/Integer", name := "bitCount", desc := "(I)I" } : Jvm.MethodName) prog_8_method_49_code (1 : Nat) (Option.some Jvm.ClassFile.FieldType.int)) ∈ gtbl := gw 150 (by decide +kernel) rfl
theorem k151 : (Jvm.Cond.constant "java/lang/Integer" (265 : Nat) (1431655765 : Int32)) ∈ gtbl := gw 151 (by decide +kernel) rfl
theorem k152 : (Jvm.Cond.constant "java/lang/Integer" (266 : Nat) (858993459 : Int32)) ∈ gtbl := gw 152 (by decide +kernel) rfl
theorem k153 : (Jvm.Cond.constant "java/lang/Integer" (267 : Nat) (252645135 : Int32)) ∈ gtbl := gw 153 (by decide +kernel) rfl
theorem k155 : (Jvm.Cond.static ({ cls := "BlinkMesh", name := "holds", desc := "(II)Z" } : Jvm.MethodName)) ∈ gtbl := gw 155 (by decide +kernel) rfl
theorem k156 : (Jvm.Cond.code ({ cls := "BlinkMesh", name := "holds", desc := "(II)Z" } : Jvm.MethodName) prog_1_method_26_code (2 : Nat) (Option.some Jvm.ClassFile.FieldType.boolean)) ∈ gtbl := gw 156 (by decide +kernel) rfl
theorem k157 : (Jvm.Cond.methodLink "BlinkMeshLaw" (65 : Nat) ({ cls := "BlinkMesh", name := "bestLink", desc := "(I)I" } : Jvm.MethodName)) ∈ gtbl := gw 157 (by decide +kernel) rfl
theorem k158 : (Jvm.Cond.instanceMethod ({ cls := "BlinkMesh", name := "bestLink", desc := "(I)I" } : Jvm.MethodName)) ∈ gtbl := gw 158 (by decide +kernel) rfl
theorem k159 : (Jvm.Cond.selects "BlinkMesh" ({ cls := "BlinkMesh", name := "bestLink", desc := "(I)I" } : Jvm.MethodName) ({ cls := "BlinkMesh", name := "bestLink", desc := "(I)I" } : Jvm.MethodName)) ∈ gtbl := gw 159 (by decide +kernel) rfl
theorem k160 : (Jvm.Cond.code ({ cls := "BlinkMesh", name := "bestLink", desc := "(I)I" } : Jvm.MethodName) prog_1_method_23_code (8 : Nat) (Option.some Jvm.ClassFile.FieldType.int)) ∈ gtbl := gw 160 (by decide +kernel) rfl
theorem k161 : (Jvm.Cond.methodLink "BlinkMesh" (178 : Nat) ({ cls := "BlinkMesh$Mesh", name := "couldLink", desc := "(II)Z" } : Jvm.MethodName)) ∈ gtbl := gw 161 (by decide +kernel) rfl
theorem k162 : (Jvm.Cond.instanceMethod ({ cls := "BlinkMesh$Mesh", name := "couldLink", desc := "(II)Z" } : Jvm.MethodName)) ∈ gtbl := gw 162 (by decide +kernel) rfl
theorem k163 : (Jvm.Cond.selects "BlinkMesh$Mesh" ({ cls := "BlinkMesh$Mesh", name := "couldLink", desc := "(II)Z" } : Jvm.MethodName) ({ cls := "BlinkMesh$Mesh", name := "couldLink", desc := "(II)Z" } : Jvm.MethodName)) ∈ gtbl := gw 163 (by decide +kernel) rfl
theorem k164 : (Jvm.Cond.code ({ cls := "BlinkMesh$Mesh", name := "couldLink", desc := "(II)Z" } : Jvm.MethodName) prog_3_method_6_code (3 : Nat) (Option.some Jvm.ClassFile.FieldType.boolean)) ∈ gtbl := gw 164 (by decide +kernel) rfl
theorem k165 : (Jvm.Cond.methodLink "BlinkMesh$Mesh" (76 : Nat) ({ cls := "BlinkMesh$Mesh", name := "isOn", desc := "(I)Z" } : Jvm.MethodName)) ∈ gtbl := gw 165 (by decide +kernel) rfl
theorem k166 : (Jvm.Cond.instanceMethod ({ cls := "BlinkMesh$Mesh", name := "isOn", desc := "(I)Z" } : Jvm.MethodName)) ∈ gtbl := gw 166 (by decide +kernel) rfl
theorem k167 : (Jvm.Cond.selects "BlinkMesh$Mesh" ({ cls := "BlinkMesh$Mesh", name := "isOn", desc := "(I)Z" } : Jvm.MethodName) ({ cls := "BlinkMesh$Mesh", name := "isOn", desc := "(I)Z" } : Jvm.MethodName)) ∈ gtbl := gw 167 (by decide +kernel) rfl
theorem k168 : (Jvm.Cond.code ({ cls := "BlinkMesh$Mesh", name := "isOn", desc := "(I)Z" } : Jvm.MethodName) prog_3_method_4_code (2 : Nat) (Option.some Jvm.ClassFile.FieldType.boolean)) ∈ gtbl := gw 168 (by decide +kernel) rfl
theorem k169 : (Jvm.Cond.methodLink "BlinkMesh$Mesh" (80 : Nat) ({ cls := "BlinkMesh$Mesh", name := "isLinked", desc := "(II)Z" } : Jvm.MethodName)) ∈ gtbl := gw 169 (by decide +kernel) rfl
theorem k170 : (Jvm.Cond.instanceMethod ({ cls := "BlinkMesh$Mesh", name := "isLinked", desc := "(II)Z" } : Jvm.MethodName)) ∈ gtbl := gw 170 (by decide +kernel) rfl
theorem k171 : (Jvm.Cond.selects "BlinkMesh$Mesh" ({ cls := "BlinkMesh$Mesh", name := "isLinked", desc := "(II)Z" } : Jvm.MethodName) ({ cls := "BlinkMesh$Mesh", name := "isLinked", desc := "(II)Z" } : Jvm.MethodName)) ∈ gtbl := gw 171 (by decide +kernel) rfl
theorem k172 : (Jvm.Cond.code ({ cls := "BlinkMesh$Mesh", name := "isLinked", desc := "(II)Z" } : Jvm.MethodName) prog_3_method_5_code (3 : Nat) (Option.some Jvm.ClassFile.FieldType.boolean)) ∈ gtbl := gw 172 (by decide +kernel) rfl
theorem k173 : (Jvm.Cond.methodLink "BlinkMesh" (181 : Nat) ({ cls := "BlinkMesh", name := "spreadWith", desc := "(II)I" } : Jvm.MethodName)) ∈ gtbl := gw 173 (by decide +kernel) rfl
theorem k175 : (Jvm.Cond.instanceMethod ({ cls := "BlinkMesh", name := "spreadWith", desc := "(II)I" } : Jvm.MethodName)) ∈ gtbl := gw 175 (by decide +kernel) rfl
theorem k176 : (Jvm.Cond.code ({ cls := "BlinkMesh", name := "spreadWith", desc := "(II)I" } : Jvm.MethodName) prog_1_method_28_code (3 : Nat) (Option.some Jvm.ClassFile.FieldType.int)) ∈ gtbl := gw 176 (by decide +kernel) rfl
theorem k177 : (Jvm.Cond.methodLink "BlinkMesh" (148 : Nat) ({ cls := "BlinkMesh$Mesh", name := "copyFrom", desc := "(LBlinkMesh$Mesh;)V" } : Jvm.MethodName)) ∈ gtbl := gw 177 (by decide +kernel) rfl
theorem k178 : (Jvm.Cond.instanceMethod ({ cls := "BlinkMesh$Mesh", name := "copyFrom", desc := "(LBlinkMesh$Mesh;)V" } : Jvm.MethodName)) ∈ gtbl := gw 178 (by decide +kernel) rfl
theorem k179 : (Jvm.Cond.selects "BlinkMesh$Mesh" ({ cls := "BlinkMesh$Mesh", name := "copyFrom", desc := "(LBlinkMesh$Mesh;)V" } : Jvm.MethodName) ({ cls := "BlinkMesh$Mesh", name := "copyFrom", desc := "(LBlinkMesh$Mesh;)V" } : Jvm.MethodName)) ∈ gtbl := gw 179 (by decide +kernel) rfl
theorem k180 : (Jvm.Cond.code ({ cls := "BlinkMesh$Mesh", name := "copyFrom", desc := "(LBlinkMesh$Mesh;)V" } : Jvm.MethodName) prog_3_method_2_code (2 : Nat) (Option.none : Option Jvm.ClassFile.FieldType)) ∈ gtbl := gw 180 (by decide +kernel) rfl
theorem k181 : (Jvm.Cond.methodLink "BlinkMesh$Mesh" (44 : Nat) ({ cls := "java/lang/System", name := "arraycopy", desc := "(Ljava/lang/Object;ILjava/lang/Object;II)V" } : Jvm.MethodName)) ∈ gtbl := gw 181 (by decide +kernel) rfl
theorem k182 : (Jvm.Cond.static ({ cls := "java/lang/System", name := "arraycopy", desc := "(Ljava/lang/Object;ILjava/lang/Object;II)V" } : Jvm.MethodName)) ∈ gtbl := gw 182 (by decide +kernel) rfl
theorem k183 : (Jvm.Cond.native ({ cls := "java/lang/System", name := "arraycopy", desc := "(Ljava/lang/Object;ILjava/lang/Object;II)V" } : Jvm.MethodName)) ∈ gtbl := gw 183 (by decide +kernel) rfl
theorem k184 : (Jvm.Cond.methodLink "BlinkMesh" (80 : Nat) ({ cls := "BlinkMesh$Mesh", name := "changeLink", desc := "(IIZ)V" } : Jvm.MethodName)) ∈ gtbl := gw 184 (by decide +kernel) rfl
theorem k185 : (Jvm.Cond.instanceMethod ({ cls := "BlinkMesh$Mesh", name := "changeLink", desc := "(IIZ)V" } : Jvm.MethodName)) ∈ gtbl := gw 185 (by decide +kernel) rfl
theorem k186 : (Jvm.Cond.selects "BlinkMesh$Mesh" ({ cls := "BlinkMesh$Mesh", name := "changeLink", desc := "(IIZ)V" } : Jvm.MethodName) ({ cls := "BlinkMesh$Mesh", name := "changeLink", desc := "(IIZ)V" } : Jvm.MethodName)) ∈ gtbl := gw 186 (by decide +kernel) rfl
theorem k187 : (Jvm.Cond.code ({ cls := "BlinkMesh$Mesh", name := "changeLink", desc := "(IIZ)V" } : Jvm.MethodName) prog_3_method_19_code (4 : Nat) (Option.none : Option Jvm.ClassFile.FieldType)) ∈ gtbl := gw 187 (by decide +kernel) rfl
theorem k188 : (Jvm.Cond.methodLink "BlinkMesh" (112 : Nat) ({ cls := "BlinkMesh$Mesh", name := "tickOften", desc := "(I)V" } : Jvm.MethodName)) ∈ gtbl := gw 188 (by decide +kernel) rfl
theorem k189 : (Jvm.Cond.instanceMethod ({ cls := "BlinkMesh$Mesh", name := "tickOften", desc := "(I)V" } : Jvm.MethodName)) ∈ gtbl := gw 189 (by decide +kernel) rfl
theorem k190 : (Jvm.Cond.selects "BlinkMesh$Mesh" ({ cls := "BlinkMesh$Mesh", name := "tickOften", desc := "(I)V" } : Jvm.MethodName) ({ cls := "BlinkMesh$Mesh", name := "tickOften", desc := "(I)V" } : Jvm.MethodName)) ∈ gtbl := gw 190 (by decide +kernel) rfl
theorem k191 : (Jvm.Cond.code ({ cls := "BlinkMesh$Mesh", name := "tickOften", desc := "(I)V" } : Jvm.MethodName) prog_3_method_24_code (3 : Nat) (Option.none : Option Jvm.ClassFile.FieldType)) ∈ gtbl := gw 191 (by decide +kernel) rfl
theorem k192 : (Jvm.Cond.methodLink "BlinkMesh$Mesh" (102 : Nat) ({ cls := "BlinkMesh$Mesh", name := "tickOnce", desc := "()I" } : Jvm.MethodName)) ∈ gtbl := gw 192 (by decide +kernel) rfl
theorem k193 : (Jvm.Cond.instanceMethod ({ cls := "BlinkMesh$Mesh", name := "tickOnce", desc := "()I" } : Jvm.MethodName)) ∈ gtbl := gw 193 (by decide +kernel) rfl
theorem k194 : (Jvm.Cond.selects "BlinkMesh$Mesh" ({ cls := "BlinkMesh$Mesh", name := "tickOnce", desc := "()I" } : Jvm.MethodName) ({ cls := "BlinkMesh$Mesh", name := "tickOnce", desc := "()I" } : Jvm.MethodName)) ∈ gtbl := gw 194 (by decide +kernel) rfl
theorem k195 : (Jvm.Cond.code ({ cls := "BlinkMesh$Mesh", name := "tickOnce", desc := "()I" } : Jvm.MethodName) prog_3_method_25_code (4 : Nat) (Option.some Jvm.ClassFile.FieldType.int)) ∈ gtbl := gw 195 (by decide +kernel) rfl
theorem k196 : (Jvm.Cond.methodLink "BlinkMesh$Mesh" (105 : Nat) ({ cls := "BlinkMesh$Mesh", name := "grow", desc := "()I" } : Jvm.MethodName)) ∈ gtbl := gw 196 (by decide +kernel) rfl
theorem k198 : (Jvm.Cond.instanceMethod ({ cls := "BlinkMesh$Mesh", name := "grow", desc := "()I" } : Jvm.MethodName)) ∈ gtbl := gw 198 (by decide +kernel) rfl
theorem k199 : (Jvm.Cond.code ({ cls := "BlinkMesh$Mesh", name := "grow", desc := "()I" } : Jvm.MethodName) prog_3_method_26_code (4 : Nat) (Option.some Jvm.ClassFile.FieldType.int)) ∈ gtbl := gw 199 (by decide +kernel) rfl
theorem k200 : (Jvm.Cond.methodLink "BlinkMesh$Mesh" (92 : Nat) ({ cls := "BlinkMesh$Mesh", name := "fullPhase", desc := "()I" } : Jvm.MethodName)) ∈ gtbl := gw 200 (by decide +kernel) rfl
theorem k202 : (Jvm.Cond.instanceMethod ({ cls := "BlinkMesh$Mesh", name := "fullPhase", desc := "()I" } : Jvm.MethodName)) ∈ gtbl := gw 202 (by decide +kernel) rfl
theorem k203 : (Jvm.Cond.code ({ cls := "BlinkMesh$Mesh", name := "fullPhase", desc := "()I" } : Jvm.MethodName) prog_3_method_23_code (1 : Nat) (Option.some Jvm.ClassFile.FieldType.int)) ∈ gtbl := gw 203 (by decide +kernel) rfl
theorem k204 : (Jvm.Cond.methodLink "BlinkMesh$Mesh" (108 : Nat) ({ cls := "BlinkMesh$Mesh", name := "blink", desc := "(I)V" } : Jvm.MethodName)) ∈ gtbl := gw 204 (by decide +kernel) rfl
theorem k206 : (Jvm.Cond.instanceMethod ({ cls := "BlinkMesh$Mesh", name := "blink", desc := "(I)V" } : Jvm.MethodName)) ∈ gtbl := gw 206 (by decide +kernel) rfl
theorem k207 : (Jvm.Cond.code ({ cls := "BlinkMesh$Mesh", name := "blink", desc := "(I)V" } : Jvm.MethodName) prog_3_method_27_code (3 : Nat) (Option.none : Option Jvm.ClassFile.FieldType)) ∈ gtbl := gw 207 (by decide +kernel) rfl
theorem k208 : (Jvm.Cond.methodLink "BlinkMesh$Mesh" (112 : Nat) ({ cls := "BlinkMesh$Mesh", name := "pushFrom", desc := "(II)I" } : Jvm.MethodName)) ∈ gtbl := gw 208 (by decide +kernel) rfl
theorem k210 : (Jvm.Cond.instanceMethod ({ cls := "BlinkMesh$Mesh", name := "pushFrom", desc := "(II)I" } : Jvm.MethodName)) ∈ gtbl := gw 210 (by decide +kernel) rfl
theorem k211 : (Jvm.Cond.code ({ cls := "BlinkMesh$Mesh", name := "pushFrom", desc := "(II)I" } : Jvm.MethodName) prog_3_method_28_code (5 : Nat) (Option.some Jvm.ClassFile.FieldType.int)) ∈ gtbl := gw 211 (by decide +kernel) rfl
theorem k212 : (Jvm.Cond.methodLink "BlinkMesh$Mesh" (118 : Nat) ({ cls := "BlinkMesh$Mesh", name := "pushAll", desc := "(I)I" } : Jvm.MethodName)) ∈ gtbl := gw 212 (by decide +kernel) rfl
theorem k214 : (Jvm.Cond.instanceMethod ({ cls := "BlinkMesh$Mesh", name := "pushAll", desc := "(I)I" } : Jvm.MethodName)) ∈ gtbl := gw 214 (by decide +kernel) rfl
theorem k215 : (Jvm.Cond.code ({ cls := "BlinkMesh$Mesh", name := "pushAll", desc := "(I)I" } : Jvm.MethodName) prog_3_method_29_code (6 : Nat) (Option.some Jvm.ClassFile.FieldType.int)) ∈ gtbl := gw 215 (by decide +kernel) rfl
theorem k216 : (Jvm.Cond.methodLink "BlinkMesh$Mesh" (96 : Nat) ({ cls := "java/lang/Math", name := "min", desc := "(II)I" } : Jvm.MethodName)) ∈ gtbl := gw 216 (by decide +kernel) rfl
theorem k217 : (Jvm.Cond.static ({ cls := "java/lang/Math", name := "min", desc := "(II)I" } : Jvm.MethodName)) ∈ gtbl := gw 217 (by decide +kernel) rfl
theorem k218 : (Jvm.Cond.code ({ cls := "java/lang/Math", name := "min", desc := "(II)I" } : Jvm.MethodName) prog_9_method_69_code (2 : Nat) (Option.some Jvm.ClassFile.FieldType.int)) ∈ gtbl := gw 218 (by decide +kernel) rfl
theorem k219 : (Jvm.Cond.methodLink "BlinkMesh$Mesh" (115 : Nat) ({ cls := "BlinkMesh$Mesh", name := "account", desc := "(I)V" } : Jvm.MethodName)) ∈ gtbl := gw 219 (by decide +kernel) rfl
theorem k221 : (Jvm.Cond.instanceMethod ({ cls := "BlinkMesh$Mesh", name := "account", desc := "(I)V" } : Jvm.MethodName)) ∈ gtbl := gw 221 (by decide +kernel) rfl
theorem k222 : (Jvm.Cond.code ({ cls := "BlinkMesh$Mesh", name := "account", desc := "(I)V" } : Jvm.MethodName) prog_3_method_30_code (2 : Nat) (Option.none : Option Jvm.ClassFile.FieldType)) ∈ gtbl := gw 222 (by decide +kernel) rfl
theorem k223 : (Jvm.Cond.methodLink "BlinkMesh$Mesh" (121 : Nat) ({ cls := "java/lang/Math", name := "max", desc := "(II)I" } : Jvm.MethodName)) ∈ gtbl := gw 223 (by decide +kernel) rfl
theorem k224 : (Jvm.Cond.static ({ cls := "java/lang/Math", name := "max", desc := "(II)I" } : Jvm.MethodName)) ∈ gtbl := gw 224 (by decide +kernel) rfl
theorem k225 : (Jvm.Cond.code ({ cls := "java/lang/Math", name := "max", desc := "(II)I" } : Jvm.MethodName) prog_9_method_65_code (2 : Nat) (Option.some Jvm.ClassFile.FieldType.int)) ∈ gtbl := gw 225 (by decide +kernel) rfl
theorem k226 : (Jvm.Cond.methodLink "BlinkMesh" (172 : Nat) ({ cls := "BlinkMesh$Mesh", name := "greatestDistance", desc := "()I" } : Jvm.MethodName)) ∈ gtbl := gw 226 (by decide +kernel) rfl
theorem k227 : (Jvm.Cond.instanceMethod ({ cls := "BlinkMesh$Mesh", name := "greatestDistance", desc := "()I" } : Jvm.MethodName)) ∈ gtbl := gw 227 (by decide +kernel) rfl
theorem k228 : (Jvm.Cond.selects "BlinkMesh$Mesh" ({ cls := "BlinkMesh$Mesh", name := "greatestDistance", desc := "()I" } : Jvm.MethodName) ({ cls := "BlinkMesh$Mesh", name := "greatestDistance", desc := "()I" } : Jvm.MethodName)) ∈ gtbl := gw 228 (by decide +kernel) rfl
theorem k229 : (Jvm.Cond.code ({ cls := "BlinkMesh$Mesh", name := "greatestDistance", desc := "()I" } : Jvm.MethodName) prog_3_method_32_code (4 : Nat) (Option.some Jvm.ClassFile.FieldType.int)) ∈ gtbl := gw 229 (by decide +kernel) rfl
theorem k230 : (Jvm.Cond.methodLink "BlinkMesh$Mesh" (127 : Nat) ({ cls := "BlinkMesh$Mesh", name := "distance", desc := "(II)I" } : Jvm.MethodName)) ∈ gtbl := gw 230 (by decide +kernel) rfl
theorem k231 : (Jvm.Cond.instanceMethod ({ cls := "BlinkMesh$Mesh", name := "distance", desc := "(II)I" } : Jvm.MethodName)) ∈ gtbl := gw 231 (by decide +kernel) rfl
theorem k232 : (Jvm.Cond.selects "BlinkMesh$Mesh" ({ cls := "BlinkMesh$Mesh", name := "distance", desc := "(II)I" } : Jvm.MethodName) ({ cls := "BlinkMesh$Mesh", name := "distance", desc := "(II)I" } : Jvm.MethodName)) ∈ gtbl := gw 232 (by decide +kernel) rfl
theorem k233 : (Jvm.Cond.code ({ cls := "BlinkMesh$Mesh", name := "distance", desc := "(II)I" } : Jvm.MethodName) prog_3_method_31_code (4 : Nat) (Option.some Jvm.ClassFile.FieldType.int)) ∈ gtbl := gw 233 (by decide +kernel) rfl
theorem k234 : (Jvm.Cond.methodLink "BlinkMesh$Mesh" (124 : Nat) ({ cls := "java/lang/Math", name := "abs", desc := "(I)I" } : Jvm.MethodName)) ∈ gtbl := gw 234 (by decide +kernel) rfl
theorem k235 : (Jvm.Cond.static ({ cls := "java/lang/Math", name := "abs", desc := "(I)I" } : Jvm.MethodName)) ∈ gtbl := gw 235 (by decide +kernel) rfl
theorem k236 : (Jvm.Cond.code ({ cls := "java/lang/Math", name := "abs", desc := "(I)I" } : Jvm.MethodName) prog_9_method_59_code (1 : Nat) (Option.some Jvm.ClassFile.FieldType.int)) ∈ gtbl := gw 236 (by decide +kernel) rfl
theorem k237 : (Jvm.Cond.methodLink "BlinkMeshLaw" (119 : Nat) ({ cls := "BlinkMeshLaw", name := "cell", desc := "([II)I" } : Jvm.MethodName)) ∈ gtbl := gw 237 (by decide +kernel) rfl
theorem k238 : (Jvm.Cond.static ({ cls := "BlinkMeshLaw", name := "cell", desc := "([II)I" } : Jvm.MethodName)) ∈ gtbl := gw 238 (by decide +kernel) rfl
theorem k239 : (Jvm.Cond.code ({ cls := "BlinkMeshLaw", name := "cell", desc := "([II)I" } : Jvm.MethodName) method_2_code (2 : Nat) (Option.some Jvm.ClassFile.FieldType.int)) ∈ gtbl := gw 239 rfl rfl
theorem k240 : (Jvm.Cond.constant "BlinkMeshLaw" (7 : Nat) (800445415 : Int32)) ∈ gtbl := gw 240 (by decide +kernel) rfl
theorem k241 : (Jvm.Cond.constant "BlinkMeshLaw" (8 : Nat) (935961071 : Int32)) ∈ gtbl := gw 241 (by decide +kernel) rfl
theorem k242 : (Jvm.Cond.methodLink "BlinkMeshLaw" (113 : Nat) ({ cls := "BlinkMeshLaw", name := "holds", desc := "(LBlinkMesh;)Z" } : Jvm.MethodName)) ∈ gtbl := gw 242 (by decide +kernel) rfl
theorem k243 : (Jvm.Cond.static ({ cls := "BlinkMeshLaw", name := "holds", desc := "(LBlinkMesh;)Z" } : Jvm.MethodName)) ∈ gtbl := gw 243 (by decide +kernel) rfl
theorem k244 : (Jvm.Cond.code ({ cls := "BlinkMeshLaw", name := "holds", desc := "(LBlinkMesh;)Z" } : Jvm.MethodName) method_7_code (10 : Nat) (Option.some Jvm.ClassFile.FieldType.boolean)) ∈ gtbl := gw 244 rfl rfl
theorem k245 : (Jvm.Cond.methodLink "BlinkMeshLaw" (26 : Nat) ({ cls := "BlinkMeshLaw", name := "isThere", desc := "(LBlinkMesh;I)Z" } : Jvm.MethodName)) ∈ gtbl := gw 245 (by decide +kernel) rfl
theorem k246 : (Jvm.Cond.static ({ cls := "BlinkMeshLaw", name := "isThere", desc := "(LBlinkMesh;I)Z" } : Jvm.MethodName)) ∈ gtbl := gw 246 (by decide +kernel) rfl
theorem k247 : (Jvm.Cond.code ({ cls := "BlinkMeshLaw", name := "isThere", desc := "(LBlinkMesh;I)Z" } : Jvm.MethodName) method_5_code (2 : Nat) (Option.some Jvm.ClassFile.FieldType.boolean)) ∈ gtbl := gw 247 rfl rfl
theorem k248 : (Jvm.Cond.methodLink "BlinkMeshLaw" (10 : Nat) ({ cls := "BlinkMesh", name := "lamp", desc := "(II)I" } : Jvm.MethodName)) ∈ gtbl := gw 248 (by decide +kernel) rfl
theorem k249 : (Jvm.Cond.instanceMethod ({ cls := "BlinkMesh", name := "lamp", desc := "(II)I" } : Jvm.MethodName)) ∈ gtbl := gw 249 (by decide +kernel) rfl
theorem k250 : (Jvm.Cond.selects "BlinkMesh" ({ cls := "BlinkMesh", name := "lamp", desc := "(II)I" } : Jvm.MethodName) ({ cls := "BlinkMesh", name := "lamp", desc := "(II)I" } : Jvm.MethodName)) ∈ gtbl := gw 250 (by decide +kernel) rfl
theorem k251 : (Jvm.Cond.code ({ cls := "BlinkMesh", name := "lamp", desc := "(II)I" } : Jvm.MethodName) prog_1_method_15_code (3 : Nat) (Option.some Jvm.ClassFile.FieldType.int)) ∈ gtbl := gw 251 (by decide +kernel) rfl
theorem k252 : (Jvm.Cond.methodLink "BlinkMesh" (59 : Nat) ({ cls := "BlinkMesh$Mesh", name := "has", desc := "(I)Z" } : Jvm.MethodName)) ∈ gtbl := gw 252 (by decide +kernel) rfl
theorem k253 : (Jvm.Cond.instanceMethod ({ cls := "BlinkMesh$Mesh", name := "has", desc := "(I)Z" } : Jvm.MethodName)) ∈ gtbl := gw 253 (by decide +kernel) rfl
theorem k254 : (Jvm.Cond.selects "BlinkMesh$Mesh" ({ cls := "BlinkMesh$Mesh", name := "has", desc := "(I)Z" } : Jvm.MethodName) ({ cls := "BlinkMesh$Mesh", name := "has", desc := "(I)Z" } : Jvm.MethodName)) ∈ gtbl := gw 254 (by decide +kernel) rfl
theorem k255 : (Jvm.Cond.code ({ cls := "BlinkMesh$Mesh", name := "has", desc := "(I)Z" } : Jvm.MethodName) prog_3_method_3_code (2 : Nat) (Option.some Jvm.ClassFile.FieldType.boolean)) ∈ gtbl := gw 255 (by decide +kernel) rfl
theorem k256 : (Jvm.Cond.methodLink "BlinkMesh" (151 : Nat) ({ cls := "BlinkMesh$Mesh", name := "tellLamp", desc := "(II)I" } : Jvm.MethodName)) ∈ gtbl := gw 256 (by decide +kernel) rfl
theorem k257 : (Jvm.Cond.instanceMethod ({ cls := "BlinkMesh$Mesh", name := "tellLamp", desc := "(II)I" } : Jvm.MethodName)) ∈ gtbl := gw 257 (by decide +kernel) rfl
theorem k258 : (Jvm.Cond.selects "BlinkMesh$Mesh" ({ cls := "BlinkMesh$Mesh", name := "tellLamp", desc := "(II)I" } : Jvm.MethodName) ({ cls := "BlinkMesh$Mesh", name := "tellLamp", desc := "(II)I" } : Jvm.MethodName)) ∈ gtbl := gw 258 (by decide +kernel) rfl
theorem k259 : (Jvm.Cond.code ({ cls := "BlinkMesh$Mesh", name := "tellLamp", desc := "(II)I" } : Jvm.MethodName) prog_3_method_40_code (3 : Nat) (Option.some Jvm.ClassFile.FieldType.int)) ∈ gtbl := gw 259 (by decide +kernel) rfl
theorem k260 : (Jvm.Cond.methodLink "BlinkMesh$Mesh" (133 : Nat) ({ cls := "BlinkMesh$Mesh", name := "pieceOf", desc := "(I)I" } : Jvm.MethodName)) ∈ gtbl := gw 260 (by decide +kernel) rfl
theorem k262 : (Jvm.Cond.instanceMethod ({ cls := "BlinkMesh$Mesh", name := "pieceOf", desc := "(I)I" } : Jvm.MethodName)) ∈ gtbl := gw 262 (by decide +kernel) rfl
theorem k263 : (Jvm.Cond.code ({ cls := "BlinkMesh$Mesh", name := "pieceOf", desc := "(I)I" } : Jvm.MethodName) prog_3_method_35_code (5 : Nat) (Option.some Jvm.ClassFile.FieldType.int)) ∈ gtbl := gw 263 (by decide +kernel) rfl
theorem k264 : (Jvm.Cond.methodLink "BlinkMesh$Mesh" (130 : Nat) ({ cls := "BlinkMesh$Mesh", name := "neighbours", desc := "(I)I" } : Jvm.MethodName)) ∈ gtbl := gw 264 (by decide +kernel) rfl
theorem k266 : (Jvm.Cond.instanceMethod ({ cls := "BlinkMesh$Mesh", name := "neighbours", desc := "(I)I" } : Jvm.MethodName)) ∈ gtbl := gw 266 (by decide +kernel) rfl
theorem k267 : (Jvm.Cond.code ({ cls := "BlinkMesh$Mesh", name := "neighbours", desc := "(I)I" } : Jvm.MethodName) prog_3_method_36_code (4 : Nat) (Option.some Jvm.ClassFile.FieldType.int)) ∈ gtbl := gw 267 (by decide +kernel) rfl
theorem k268 : (Jvm.Cond.methodLink "BlinkMesh$Mesh" (136 : Nat) ({ cls := "BlinkMesh$Mesh", name := "agreeing", desc := "(I)I" } : Jvm.MethodName)) ∈ gtbl := gw 268 (by decide +kernel) rfl
theorem k270 : (Jvm.Cond.instanceMethod ({ cls := "BlinkMesh$Mesh", name := "agreeing", desc := "(I)I" } : Jvm.MethodName)) ∈ gtbl := gw 270 (by decide +kernel) rfl
theorem k271 : (Jvm.Cond.code ({ cls := "BlinkMesh$Mesh", name := "agreeing", desc := "(I)I" } : Jvm.MethodName) prog_3_method_38_code (4 : Nat) (Option.some Jvm.ClassFile.FieldType.int)) ∈ gtbl := gw 271 (by decide +kernel) rfl
theorem k272 : (Jvm.Cond.methodLink "BlinkMeshLaw" (16 : Nat) ({ cls := "BlinkMeshLaw", name := "isOn", desc := "(LBlinkMesh;I)Z" } : Jvm.MethodName)) ∈ gtbl := gw 272 (by decide +kernel) rfl
theorem k273 : (Jvm.Cond.static ({ cls := "BlinkMeshLaw", name := "isOn", desc := "(LBlinkMesh;I)Z" } : Jvm.MethodName)) ∈ gtbl := gw 273 (by decide +kernel) rfl
theorem k274 : (Jvm.Cond.code ({ cls := "BlinkMeshLaw", name := "isOn", desc := "(LBlinkMesh;I)Z" } : Jvm.MethodName) method_4_code (2 : Nat) (Option.some Jvm.ClassFile.FieldType.boolean)) ∈ gtbl := gw 274 rfl rfl
theorem k275 : (Jvm.Cond.methodLink "BlinkMeshLaw" (29 : Nat) ({ cls := "BlinkMesh", name := "apart", desc := "(II)I" } : Jvm.MethodName)) ∈ gtbl := gw 275 (by decide +kernel) rfl
theorem k276 : (Jvm.Cond.instanceMethod ({ cls := "BlinkMesh", name := "apart", desc := "(II)I" } : Jvm.MethodName)) ∈ gtbl := gw 276 (by decide +kernel) rfl
theorem k277 : (Jvm.Cond.selects "BlinkMesh" ({ cls := "BlinkMesh", name := "apart", desc := "(II)I" } : Jvm.MethodName) ({ cls := "BlinkMesh", name := "apart", desc := "(II)I" } : Jvm.MethodName)) ∈ gtbl := gw 277 (by decide +kernel) rfl
theorem k278 : (Jvm.Cond.code ({ cls := "BlinkMesh", name := "apart", desc := "(II)I" } : Jvm.MethodName) prog_1_method_16_code (3 : Nat) (Option.some Jvm.ClassFile.FieldType.int)) ∈ gtbl := gw 278 (by decide +kernel) rfl
theorem k279 : (Jvm.Cond.methodLink "BlinkMesh" (154 : Nat) ({ cls := "BlinkMesh$Mesh", name := "distance", desc := "(II)I" } : Jvm.MethodName)) ∈ gtbl := gw 279 (by decide +kernel) rfl
theorem k280 : (Jvm.Cond.methodLink "BlinkMeshLaw" (22 : Nat) ({ cls := "BlinkMesh", name := "count", desc := "(I)I" } : Jvm.MethodName)) ∈ gtbl := gw 280 (by decide +kernel) rfl
theorem k281 : (Jvm.Cond.instanceMethod ({ cls := "BlinkMesh", name := "count", desc := "(I)I" } : Jvm.MethodName)) ∈ gtbl := gw 281 (by decide +kernel) rfl
theorem k282 : (Jvm.Cond.selects "BlinkMesh" ({ cls := "BlinkMesh", name := "count", desc := "(I)I" } : Jvm.MethodName) ({ cls := "BlinkMesh", name := "count", desc := "(I)I" } : Jvm.MethodName)) ∈ gtbl := gw 282 (by decide +kernel) rfl
theorem k283 : (Jvm.Cond.code ({ cls := "BlinkMesh", name := "count", desc := "(I)I" } : Jvm.MethodName) prog_1_method_24_code (2 : Nat) (Option.some Jvm.ClassFile.FieldType.int)) ∈ gtbl := gw 283 (by decide +kernel) rfl
theorem k284 : (Jvm.Cond.methodLink "BlinkMesh" (142 : Nat) ({ cls := "BlinkMesh$History", name := "size", desc := "()I" } : Jvm.MethodName)) ∈ gtbl := gw 284 (by decide +kernel) rfl
