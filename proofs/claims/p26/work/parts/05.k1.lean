theorem k285 : (Jvm.Cond.instanceMethod ({ cls := "BlinkMesh$History", name := "size", desc := "()I" } : Jvm.MethodName)) ∈ gtbl := gw 285 (by decide +kernel) rfl
theorem k286 : (Jvm.Cond.selects "BlinkMesh$History" ({ cls := "BlinkMesh$History", name := "size", desc := "()I" } : Jvm.MethodName) ({ cls := "BlinkMesh$History", name := "size", desc := "()I" } : Jvm.MethodName)) ∈ gtbl := gw 286 (by decide +kernel) rfl
theorem k287 : (Jvm.Cond.code ({ cls := "BlinkMesh$History", name := "size", desc := "()I" } : Jvm.MethodName) prog_2_method_2_code (1 : Nat) (Option.some Jvm.ClassFile.FieldType.int)) ∈ gtbl := gw 287 (by decide +kernel) rfl
theorem k288 : (Jvm.Cond.methodLink "BlinkMesh" (124 : Nat) ({ cls := "BlinkMesh$MeshText", name := "length", desc := "()I" } : Jvm.MethodName)) ∈ gtbl := gw 288 (by decide +kernel) rfl
theorem k289 : (Jvm.Cond.instanceMethod ({ cls := "BlinkMesh$MeshText", name := "length", desc := "()I" } : Jvm.MethodName)) ∈ gtbl := gw 289 (by decide +kernel) rfl
theorem k290 : (Jvm.Cond.selects "BlinkMesh$MeshText" ({ cls := "BlinkMesh$MeshText", name := "length", desc := "()I" } : Jvm.MethodName) ({ cls := "BlinkMesh$MeshText", name := "length", desc := "()I" } : Jvm.MethodName)) ∈ gtbl := gw 290 (by decide +kernel) rfl
theorem k291 : (Jvm.Cond.code ({ cls := "BlinkMesh$MeshText", name := "length", desc := "()I" } : Jvm.MethodName) prog_4_method_2_code (1 : Nat) (Option.some Jvm.ClassFile.FieldType.int)) ∈ gtbl := gw 291 (by decide +kernel) rfl
theorem k292 : (Jvm.Cond.methodLink "BlinkMesh" (184 : Nat) ({ cls := "BlinkMesh$Mesh", name := "tellMesh", desc := "(I)I" } : Jvm.MethodName)) ∈ gtbl := gw 292 (by decide +kernel) rfl
theorem k293 : (Jvm.Cond.instanceMethod ({ cls := "BlinkMesh$Mesh", name := "tellMesh", desc := "(I)I" } : Jvm.MethodName)) ∈ gtbl := gw 293 (by decide +kernel) rfl
theorem k294 : (Jvm.Cond.selects "BlinkMesh$Mesh" ({ cls := "BlinkMesh$Mesh", name := "tellMesh", desc := "(I)I" } : Jvm.MethodName) ({ cls := "BlinkMesh$Mesh", name := "tellMesh", desc := "(I)I" } : Jvm.MethodName)) ∈ gtbl := gw 294 (by decide +kernel) rfl
theorem k295 : (Jvm.Cond.code ({ cls := "BlinkMesh$Mesh", name := "tellMesh", desc := "(I)I" } : Jvm.MethodName) prog_3_method_41_code (2 : Nat) (Option.some Jvm.ClassFile.FieldType.int)) ∈ gtbl := gw 295 (by decide +kernel) rfl
theorem k296 : (Jvm.Cond.methodLink "BlinkMesh$Mesh" (139 : Nat) ({ cls := "BlinkMesh$Mesh", name := "lamps", desc := "()I" } : Jvm.MethodName)) ∈ gtbl := gw 296 (by decide +kernel) rfl
theorem k297 : (Jvm.Cond.instanceMethod ({ cls := "BlinkMesh$Mesh", name := "lamps", desc := "()I" } : Jvm.MethodName)) ∈ gtbl := gw 297 (by decide +kernel) rfl
theorem k298 : (Jvm.Cond.selects "BlinkMesh$Mesh" ({ cls := "BlinkMesh$Mesh", name := "lamps", desc := "()I" } : Jvm.MethodName) ({ cls := "BlinkMesh$Mesh", name := "lamps", desc := "()I" } : Jvm.MethodName)) ∈ gtbl := gw 298 (by decide +kernel) rfl
theorem k299 : (Jvm.Cond.code ({ cls := "BlinkMesh$Mesh", name := "lamps", desc := "()I" } : Jvm.MethodName) prog_3_method_11_code (1 : Nat) (Option.some Jvm.ClassFile.FieldType.int)) ∈ gtbl := gw 299 (by decide +kernel) rfl
theorem k300 : (Jvm.Cond.methodLink "BlinkMesh$Mesh" (142 : Nat) ({ cls := "BlinkMesh$Mesh", name := "lampsOn", desc := "()I" } : Jvm.MethodName)) ∈ gtbl := gw 300 (by decide +kernel) rfl
theorem k301 : (Jvm.Cond.instanceMethod ({ cls := "BlinkMesh$Mesh", name := "lampsOn", desc := "()I" } : Jvm.MethodName)) ∈ gtbl := gw 301 (by decide +kernel) rfl
theorem k302 : (Jvm.Cond.selects "BlinkMesh$Mesh" ({ cls := "BlinkMesh$Mesh", name := "lampsOn", desc := "()I" } : Jvm.MethodName) ({ cls := "BlinkMesh$Mesh", name := "lampsOn", desc := "()I" } : Jvm.MethodName)) ∈ gtbl := gw 302 (by decide +kernel) rfl
theorem k303 : (Jvm.Cond.code ({ cls := "BlinkMesh$Mesh", name := "lampsOn", desc := "()I" } : Jvm.MethodName) prog_3_method_12_code (1 : Nat) (Option.some Jvm.ClassFile.FieldType.int)) ∈ gtbl := gw 303 (by decide +kernel) rfl
theorem k304 : (Jvm.Cond.methodLink "BlinkMesh$Mesh" (145 : Nat) ({ cls := "BlinkMesh$Mesh", name := "links", desc := "()I" } : Jvm.MethodName)) ∈ gtbl := gw 304 (by decide +kernel) rfl
theorem k305 : (Jvm.Cond.instanceMethod ({ cls := "BlinkMesh$Mesh", name := "links", desc := "()I" } : Jvm.MethodName)) ∈ gtbl := gw 305 (by decide +kernel) rfl
theorem k306 : (Jvm.Cond.selects "BlinkMesh$Mesh" ({ cls := "BlinkMesh$Mesh", name := "links", desc := "()I" } : Jvm.MethodName) ({ cls := "BlinkMesh$Mesh", name := "links", desc := "()I" } : Jvm.MethodName)) ∈ gtbl := gw 306 (by decide +kernel) rfl
theorem k307 : (Jvm.Cond.code ({ cls := "BlinkMesh$Mesh", name := "links", desc := "()I" } : Jvm.MethodName) prog_3_method_13_code (3 : Nat) (Option.some Jvm.ClassFile.FieldType.int)) ∈ gtbl := gw 307 (by decide +kernel) rfl
theorem k308 : (Jvm.Cond.methodLink "BlinkMesh$Mesh" (148 : Nat) ({ cls := "BlinkMesh$Mesh", name := "pieces", desc := "()I" } : Jvm.MethodName)) ∈ gtbl := gw 308 (by decide +kernel) rfl
theorem k309 : (Jvm.Cond.instanceMethod ({ cls := "BlinkMesh$Mesh", name := "pieces", desc := "()I" } : Jvm.MethodName)) ∈ gtbl := gw 309 (by decide +kernel) rfl
theorem k310 : (Jvm.Cond.selects "BlinkMesh$Mesh" ({ cls := "BlinkMesh$Mesh", name := "pieces", desc := "()I" } : Jvm.MethodName) ({ cls := "BlinkMesh$Mesh", name := "pieces", desc := "()I" } : Jvm.MethodName)) ∈ gtbl := gw 310 (by decide +kernel) rfl
theorem k311 : (Jvm.Cond.code ({ cls := "BlinkMesh$Mesh", name := "pieces", desc := "()I" } : Jvm.MethodName) prog_3_method_37_code (4 : Nat) (Option.some Jvm.ClassFile.FieldType.int)) ∈ gtbl := gw 311 (by decide +kernel) rfl
theorem k312 : (Jvm.Cond.methodLink "BlinkMeshLaw" (32 : Nat) ({ cls := "BlinkMeshLaw", name := "isLamp", desc := "(LBlinkMesh;I)Z" } : Jvm.MethodName)) ∈ gtbl := gw 312 (by decide +kernel) rfl
theorem k313 : (Jvm.Cond.static ({ cls := "BlinkMeshLaw", name := "isLamp", desc := "(LBlinkMesh;I)Z" } : Jvm.MethodName)) ∈ gtbl := gw 313 (by decide +kernel) rfl
theorem k314 : (Jvm.Cond.code ({ cls := "BlinkMeshLaw", name := "isLamp", desc := "(LBlinkMesh;I)Z" } : Jvm.MethodName) method_6_code (10 : Nat) (Option.some Jvm.ClassFile.FieldType.boolean)) ∈ gtbl := gw 314 rfl rfl
theorem k315 : (Jvm.Cond.methodLink "BlinkMeshLaw" (35 : Nat) ({ cls := "BlinkMesh", name := "spread", desc := "()I" } : Jvm.MethodName)) ∈ gtbl := gw 315 (by decide +kernel) rfl
theorem k316 : (Jvm.Cond.instanceMethod ({ cls := "BlinkMesh", name := "spread", desc := "()I" } : Jvm.MethodName)) ∈ gtbl := gw 316 (by decide +kernel) rfl
theorem k317 : (Jvm.Cond.selects "BlinkMesh" ({ cls := "BlinkMesh", name := "spread", desc := "()I" } : Jvm.MethodName) ({ cls := "BlinkMesh", name := "spread", desc := "()I" } : Jvm.MethodName)) ∈ gtbl := gw 317 (by decide +kernel) rfl
theorem k318 : (Jvm.Cond.code ({ cls := "BlinkMesh", name := "spread", desc := "()I" } : Jvm.MethodName) prog_1_method_20_code (1 : Nat) (Option.some Jvm.ClassFile.FieldType.int)) ∈ gtbl := gw 318 (by decide +kernel) rfl
theorem k319 : (Jvm.Cond.methodLink "BlinkMesh" (73 : Nat) ({ cls := "BlinkMesh$Mesh", name := "lampsOn", desc := "()I" } : Jvm.MethodName)) ∈ gtbl := gw 319 (by decide +kernel) rfl
theorem k320 : (Jvm.Cond.methodLink "BlinkMeshLaw" (39 : Nat) ({ cls := "BlinkMesh", name := "togetherIn", desc := "()I" } : Jvm.MethodName)) ∈ gtbl := gw 320 (by decide +kernel) rfl
theorem k321 : (Jvm.Cond.instanceMethod ({ cls := "BlinkMesh", name := "togetherIn", desc := "()I" } : Jvm.MethodName)) ∈ gtbl := gw 321 (by decide +kernel) rfl
theorem k322 : (Jvm.Cond.selects "BlinkMesh" ({ cls := "BlinkMesh", name := "togetherIn", desc := "()I" } : Jvm.MethodName) ({ cls := "BlinkMesh", name := "togetherIn", desc := "()I" } : Jvm.MethodName)) ∈ gtbl := gw 322 (by decide +kernel) rfl
theorem k323 : (Jvm.Cond.code ({ cls := "BlinkMesh", name := "togetherIn", desc := "()I" } : Jvm.MethodName) prog_1_method_18_code (1 : Nat) (Option.some Jvm.ClassFile.FieldType.int)) ∈ gtbl := gw 323 (by decide +kernel) rfl
theorem k324 : (Jvm.Cond.methodLink "BlinkMesh" (160 : Nat) ({ cls := "BlinkMesh", name := "trialTogetherIn", desc := "()I" } : Jvm.MethodName)) ∈ gtbl := gw 324 (by decide +kernel) rfl
theorem k326 : (Jvm.Cond.instanceMethod ({ cls := "BlinkMesh", name := "trialTogetherIn", desc := "()I" } : Jvm.MethodName)) ∈ gtbl := gw 326 (by decide +kernel) rfl
theorem k327 : (Jvm.Cond.code ({ cls := "BlinkMesh", name := "trialTogetherIn", desc := "()I" } : Jvm.MethodName) prog_1_method_27_code (2 : Nat) (Option.some Jvm.ClassFile.FieldType.int)) ∈ gtbl := gw 327 (by decide +kernel) rfl
theorem k328 : (Jvm.Cond.methodLink "BlinkMesh" (163 : Nat) ({ cls := "BlinkMesh$Mesh", name := "isTogether", desc := "()Z" } : Jvm.MethodName)) ∈ gtbl := gw 328 (by decide +kernel) rfl
theorem k329 : (Jvm.Cond.instanceMethod ({ cls := "BlinkMesh$Mesh", name := "isTogether", desc := "()Z" } : Jvm.MethodName)) ∈ gtbl := gw 329 (by decide +kernel) rfl
theorem k330 : (Jvm.Cond.selects "BlinkMesh$Mesh" ({ cls := "BlinkMesh$Mesh", name := "isTogether", desc := "()Z" } : Jvm.MethodName) ({ cls := "BlinkMesh$Mesh", name := "isTogether", desc := "()Z" } : Jvm.MethodName)) ∈ gtbl := gw 330 (by decide +kernel) rfl
theorem k331 : (Jvm.Cond.code ({ cls := "BlinkMesh$Mesh", name := "isTogether", desc := "()Z" } : Jvm.MethodName) prog_3_method_33_code (3 : Nat) (Option.some Jvm.ClassFile.FieldType.boolean)) ∈ gtbl := gw 331 (by decide +kernel) rfl
theorem k332 : (Jvm.Cond.methodLink "BlinkMesh" (157 : Nat) ({ cls := "BlinkMesh$Mesh", name := "tickOnce", desc := "()I" } : Jvm.MethodName)) ∈ gtbl := gw 332 (by decide +kernel) rfl
theorem k333 : (Jvm.Cond.methodLink "BlinkMeshLaw" (42 : Nat) ({ cls := "BlinkMesh", name := "next", desc := "(I)I" } : Jvm.MethodName)) ∈ gtbl := gw 333 (by decide +kernel) rfl
theorem k334 : (Jvm.Cond.instanceMethod ({ cls := "BlinkMesh", name := "next", desc := "(I)I" } : Jvm.MethodName)) ∈ gtbl := gw 334 (by decide +kernel) rfl
theorem k335 : (Jvm.Cond.selects "BlinkMesh" ({ cls := "BlinkMesh", name := "next", desc := "(I)I" } : Jvm.MethodName) ({ cls := "BlinkMesh", name := "next", desc := "(I)I" } : Jvm.MethodName)) ∈ gtbl := gw 335 (by decide +kernel) rfl
theorem k336 : (Jvm.Cond.code ({ cls := "BlinkMesh", name := "next", desc := "(I)I" } : Jvm.MethodName) prog_1_method_17_code (4 : Nat) (Option.some Jvm.ClassFile.FieldType.int)) ∈ gtbl := gw 336 (by decide +kernel) rfl
theorem k337 : (Jvm.Cond.methodLink "BlinkMeshLaw" (45 : Nat) ({ cls := "BlinkMesh", name := "reason", desc := "()I" } : Jvm.MethodName)) ∈ gtbl := gw 337 (by decide +kernel) rfl
theorem k338 : (Jvm.Cond.instanceMethod ({ cls := "BlinkMesh", name := "reason", desc := "()I" } : Jvm.MethodName)) ∈ gtbl := gw 338 (by decide +kernel) rfl
theorem k339 : (Jvm.Cond.selects "BlinkMesh" ({ cls := "BlinkMesh", name := "reason", desc := "()I" } : Jvm.MethodName) ({ cls := "BlinkMesh", name := "reason", desc := "()I" } : Jvm.MethodName)) ∈ gtbl := gw 339 (by decide +kernel) rfl
theorem k340 : (Jvm.Cond.code ({ cls := "BlinkMesh", name := "reason", desc := "()I" } : Jvm.MethodName) prog_1_method_19_code (1 : Nat) (Option.some Jvm.ClassFile.FieldType.int)) ∈ gtbl := gw 340 (by decide +kernel) rfl
theorem k341 : (Jvm.Cond.methodLink "BlinkMesh" (166 : Nat) ({ cls := "BlinkMesh$Mesh", name := "pieces", desc := "()I" } : Jvm.MethodName)) ∈ gtbl := gw 341 (by decide +kernel) rfl
theorem k342 : (Jvm.Cond.methodLink "BlinkMesh" (169 : Nat) ({ cls := "BlinkMesh$Mesh", name := "hasUnlikeRates", desc := "()Z" } : Jvm.MethodName)) ∈ gtbl := gw 342 (by decide +kernel) rfl
theorem k343 : (Jvm.Cond.instanceMethod ({ cls := "BlinkMesh$Mesh", name := "hasUnlikeRates", desc := "()Z" } : Jvm.MethodName)) ∈ gtbl := gw 343 (by decide +kernel) rfl
theorem k344 : (Jvm.Cond.selects "BlinkMesh$Mesh" ({ cls := "BlinkMesh$Mesh", name := "hasUnlikeRates", desc := "()Z" } : Jvm.MethodName) ({ cls := "BlinkMesh$Mesh", name := "hasUnlikeRates", desc := "()Z" } : Jvm.MethodName)) ∈ gtbl := gw 344 (by decide +kernel) rfl
theorem k345 : (Jvm.Cond.code ({ cls := "BlinkMesh$Mesh", name := "hasUnlikeRates", desc := "()Z" } : Jvm.MethodName) prog_3_method_34_code (3 : Nat) (Option.some Jvm.ClassFile.FieldType.boolean)) ∈ gtbl := gw 345 (by decide +kernel) rfl
theorem k346 : (Jvm.Cond.methodLink "BlinkMesh" (98 : Nat) ({ cls := "BlinkMesh$Mesh", name := "setting", desc := "(I)I" } : Jvm.MethodName)) ∈ gtbl := gw 346 (by decide +kernel) rfl
theorem k347 : (Jvm.Cond.instanceMethod ({ cls := "BlinkMesh$Mesh", name := "setting", desc := "(I)I" } : Jvm.MethodName)) ∈ gtbl := gw 347 (by decide +kernel) rfl
theorem k348 : (Jvm.Cond.selects "BlinkMesh$Mesh" ({ cls := "BlinkMesh$Mesh", name := "setting", desc := "(I)I" } : Jvm.MethodName) ({ cls := "BlinkMesh$Mesh", name := "setting", desc := "(I)I" } : Jvm.MethodName)) ∈ gtbl := gw 348 (by decide +kernel) rfl
theorem k349 : (Jvm.Cond.code ({ cls := "BlinkMesh$Mesh", name := "setting", desc := "(I)I" } : Jvm.MethodName) prog_3_method_8_code (2 : Nat) (Option.some Jvm.ClassFile.FieldType.int)) ∈ gtbl := gw 349 (by decide +kernel) rfl
theorem k350 : (Jvm.Cond.methodLink "BlinkMeshLaw" (103 : Nat) ({ cls := "BlinkMeshLaw", name := "nextSo", desc := "(LBlinkMesh;)Z" } : Jvm.MethodName)) ∈ gtbl := gw 350 (by decide +kernel) rfl
theorem k351 : (Jvm.Cond.static ({ cls := "BlinkMeshLaw", name := "nextSo", desc := "(LBlinkMesh;)Z" } : Jvm.MethodName)) ∈ gtbl := gw 351 (by decide +kernel) rfl
theorem k352 : (Jvm.Cond.code ({ cls := "BlinkMeshLaw", name := "nextSo", desc := "(LBlinkMesh;)Z" } : Jvm.MethodName) method_9_code (8 : Nat) (Option.some Jvm.ClassFile.FieldType.boolean)) ∈ gtbl := gw 352 rfl rfl
theorem k353 : (Jvm.Cond.methodLink "BlinkMeshLaw" (52 : Nat) ({ cls := "BlinkMesh", name := "pass", desc := "(I)I" } : Jvm.MethodName)) ∈ gtbl := gw 353 (by decide +kernel) rfl
theorem k354 : (Jvm.Cond.instanceMethod ({ cls := "BlinkMesh", name := "pass", desc := "(I)I" } : Jvm.MethodName)) ∈ gtbl := gw 354 (by decide +kernel) rfl
theorem k355 : (Jvm.Cond.selects "BlinkMesh" ({ cls := "BlinkMesh", name := "pass", desc := "(I)I" } : Jvm.MethodName) ({ cls := "BlinkMesh", name := "pass", desc := "(I)I" } : Jvm.MethodName)) ∈ gtbl := gw 355 (by decide +kernel) rfl
theorem k356 : (Jvm.Cond.code ({ cls := "BlinkMesh", name := "pass", desc := "(I)I" } : Jvm.MethodName) prog_1_method_8_code (3 : Nat) (Option.some Jvm.ClassFile.FieldType.int)) ∈ gtbl := gw 356 (by decide +kernel) rfl
theorem k357 : (Jvm.Cond.methodLink "BlinkMesh" (105 : Nat) ({ cls := "BlinkMesh$Mesh", name := "tickNumber", desc := "()I" } : Jvm.MethodName)) ∈ gtbl := gw 357 (by decide +kernel) rfl
theorem k358 : (Jvm.Cond.instanceMethod ({ cls := "BlinkMesh$Mesh", name := "tickNumber", desc := "()I" } : Jvm.MethodName)) ∈ gtbl := gw 358 (by decide +kernel) rfl
theorem k359 : (Jvm.Cond.selects "BlinkMesh$Mesh" ({ cls := "BlinkMesh$Mesh", name := "tickNumber", desc := "()I" } : Jvm.MethodName) ({ cls := "BlinkMesh$Mesh", name := "tickNumber", desc := "()I" } : Jvm.MethodName)) ∈ gtbl := gw 359 (by decide +kernel) rfl
theorem k360 : (Jvm.Cond.code ({ cls := "BlinkMesh$Mesh", name := "tickNumber", desc := "()I" } : Jvm.MethodName) prog_3_method_9_code (1 : Nat) (Option.some Jvm.ClassFile.FieldType.int)) ∈ gtbl := gw 360 (by decide +kernel) rfl
theorem k361 : (Jvm.Cond.constant "BlinkMesh" (108 : Nat) (99999 : Int32)) ∈ gtbl := gw 361 (by decide +kernel) rfl
theorem k362 : (Jvm.Cond.methodLink "BlinkMesh" (51 : Nat) ({ cls := "BlinkMesh$History", name := "remember", desc := "(LBlinkMesh$Mesh;)V" } : Jvm.MethodName)) ∈ gtbl := gw 362 (by decide +kernel) rfl
theorem k363 : (Jvm.Cond.instanceMethod ({ cls := "BlinkMesh$History", name := "remember", desc := "(LBlinkMesh$Mesh;)V" } : Jvm.MethodName)) ∈ gtbl := gw 363 (by decide +kernel) rfl
theorem k364 : (Jvm.Cond.selects "BlinkMesh$History" ({ cls := "BlinkMesh$History", name := "remember", desc := "(LBlinkMesh$Mesh;)V" } : Jvm.MethodName) ({ cls := "BlinkMesh$History", name := "remember", desc := "(LBlinkMesh$Mesh;)V" } : Jvm.MethodName)) ∈ gtbl := gw 364 (by decide +kernel) rfl
theorem k365 : (Jvm.Cond.code ({ cls := "BlinkMesh$History", name := "remember", desc := "(LBlinkMesh$Mesh;)V" } : Jvm.MethodName) prog_2_method_3_code (2 : Nat) (Option.none : Option Jvm.ClassFile.FieldType)) ∈ gtbl := gw 365 (by decide +kernel) rfl
theorem k366 : (Jvm.Cond.methodLink "BlinkMesh$History" (22 : Nat) ({ cls := "BlinkMesh$History", name := "dropOldest", desc := "()V" } : Jvm.MethodName)) ∈ gtbl := gw 366 (by decide +kernel) rfl
theorem k368 : (Jvm.Cond.instanceMethod ({ cls := "BlinkMesh$History", name := "dropOldest", desc := "()V" } : Jvm.MethodName)) ∈ gtbl := gw 368 (by decide +kernel) rfl
theorem k369 : (Jvm.Cond.code ({ cls := "BlinkMesh$History", name := "dropOldest", desc := "()V" } : Jvm.MethodName) prog_2_method_4_code (3 : Nat) (Option.none : Option Jvm.ClassFile.FieldType)) ∈ gtbl := gw 369 (by decide +kernel) rfl
theorem k370 : (Jvm.Cond.methodLink "BlinkMesh$History" (25 : Nat) ({ cls := "BlinkMesh$Mesh", name := "copyFrom", desc := "(LBlinkMesh$Mesh;)V" } : Jvm.MethodName)) ∈ gtbl := gw 370 (by decide +kernel) rfl
theorem k371 : (Jvm.Cond.methodLink "BlinkMesh" (109 : Nat) ({ cls := "BlinkMesh$Mesh", name := "allBlinks", desc := "()I" } : Jvm.MethodName)) ∈ gtbl := gw 371 (by decide +kernel) rfl
theorem k372 : (Jvm.Cond.instanceMethod ({ cls := "BlinkMesh$Mesh", name := "allBlinks", desc := "()I" } : Jvm.MethodName)) ∈ gtbl := gw 372 (by decide +kernel) rfl
theorem k373 : (Jvm.Cond.selects "BlinkMesh$Mesh" ({ cls := "BlinkMesh$Mesh", name := "allBlinks", desc := "()I" } : Jvm.MethodName) ({ cls := "BlinkMesh$Mesh", name := "allBlinks", desc := "()I" } : Jvm.MethodName)) ∈ gtbl := gw 373 (by decide +kernel) rfl
theorem k374 : (Jvm.Cond.code ({ cls := "BlinkMesh$Mesh", name := "allBlinks", desc := "()I" } : Jvm.MethodName) prog_3_method_10_code (1 : Nat) (Option.some Jvm.ClassFile.FieldType.int)) ∈ gtbl := gw 374 (by decide +kernel) rfl
theorem k375 : (Jvm.Cond.methodLink "BlinkMeshLaw" (55 : Nat) ({ cls := "BlinkMesh", name := "undo", desc := "()I" } : Jvm.MethodName)) ∈ gtbl := gw 375 (by decide +kernel) rfl
theorem k376 : (Jvm.Cond.instanceMethod ({ cls := "BlinkMesh", name := "undo", desc := "()I" } : Jvm.MethodName)) ∈ gtbl := gw 376 (by decide +kernel) rfl
theorem k377 : (Jvm.Cond.selects "BlinkMesh" ({ cls := "BlinkMesh", name := "undo", desc := "()I" } : Jvm.MethodName) ({ cls := "BlinkMesh", name := "undo", desc := "()I" } : Jvm.MethodName)) ∈ gtbl := gw 377 (by decide +kernel) rfl
theorem k378 : (Jvm.Cond.code ({ cls := "BlinkMesh", name := "undo", desc := "()I" } : Jvm.MethodName) prog_1_method_12_code (1 : Nat) (Option.some Jvm.ClassFile.FieldType.int)) ∈ gtbl := gw 378 (by decide +kernel) rfl
theorem k379 : (Jvm.Cond.methodLink "BlinkMesh" (145 : Nat) ({ cls := "BlinkMesh$History", name := "takeBack", desc := "(LBlinkMesh$Mesh;)V" } : Jvm.MethodName)) ∈ gtbl := gw 379 (by decide +kernel) rfl
theorem k380 : (Jvm.Cond.instanceMethod ({ cls := "BlinkMesh$History", name := "takeBack", desc := "(LBlinkMesh$Mesh;)V" } : Jvm.MethodName)) ∈ gtbl := gw 380 (by decide +kernel) rfl
theorem k381 : (Jvm.Cond.selects "BlinkMesh$History" ({ cls := "BlinkMesh$History", name := "takeBack", desc := "(LBlinkMesh$Mesh;)V" } : Jvm.MethodName) ({ cls := "BlinkMesh$History", name := "takeBack", desc := "(LBlinkMesh$Mesh;)V" } : Jvm.MethodName)) ∈ gtbl := gw 381 (by decide +kernel) rfl
theorem k382 : (Jvm.Cond.code ({ cls := "BlinkMesh$History", name := "takeBack", desc := "(LBlinkMesh$Mesh;)V" } : Jvm.MethodName) prog_2_method_5_code (2 : Nat) (Option.none : Option Jvm.ClassFile.FieldType)) ∈ gtbl := gw 382 (by decide +kernel) rfl
theorem k383 : (Jvm.Cond.methodLink "BlinkMeshLaw" (99 : Nat) ({ cls := "BlinkMeshLaw", name := "togetherSo", desc := "(LBlinkMesh;)Z" } : Jvm.MethodName)) ∈ gtbl := gw 383 (by decide +kernel) rfl
theorem k384 : (Jvm.Cond.static ({ cls := "BlinkMeshLaw", name := "togetherSo", desc := "(LBlinkMesh;)Z" } : Jvm.MethodName)) ∈ gtbl := gw 384 (by decide +kernel) rfl
theorem k385 : (Jvm.Cond.code ({ cls := "BlinkMeshLaw", name := "togetherSo", desc := "(LBlinkMesh;)Z" } : Jvm.MethodName) method_10_code (3 : Nat) (Option.some Jvm.ClassFile.FieldType.boolean)) ∈ gtbl := gw 385 rfl rfl
theorem k386 : (Jvm.Cond.methodLink "BlinkMeshLaw" (123 : Nat) ({ cls := "BlinkMeshLaw", name := "act", desc := "(LBlinkMesh;II)Z" } : Jvm.MethodName)) ∈ gtbl := gw 386 (by decide +kernel) rfl
theorem k387 : (Jvm.Cond.static ({ cls := "BlinkMeshLaw", name := "act", desc := "(LBlinkMesh;II)Z" } : Jvm.MethodName)) ∈ gtbl := gw 387 (by decide +kernel) rfl
theorem k388 : (Jvm.Cond.code ({ cls := "BlinkMeshLaw", name := "act", desc := "(LBlinkMesh;II)Z" } : Jvm.MethodName) method_15_code (9 : Nat) (Option.some Jvm.ClassFile.FieldType.boolean)) ∈ gtbl := gw 388 rfl rfl
theorem k389 : (Jvm.Cond.methodLink "BlinkMeshLaw" (72 : Nat) ({ cls := "BlinkMeshLaw", name := "low", desc := "(II)I" } : Jvm.MethodName)) ∈ gtbl := gw 389 (by decide +kernel) rfl
theorem k390 : (Jvm.Cond.static ({ cls := "BlinkMeshLaw", name := "low", desc := "(II)I" } : Jvm.MethodName)) ∈ gtbl := gw 390 (by decide +kernel) rfl
theorem k391 : (Jvm.Cond.code ({ cls := "BlinkMeshLaw", name := "low", desc := "(II)I" } : Jvm.MethodName) method_3_code (2 : Nat) (Option.some Jvm.ClassFile.FieldType.int)) ∈ gtbl := gw 391 rfl rfl
theorem k392 : (Jvm.Cond.constant "BlinkMeshLaw" (9 : Nat) (2147483647 : Int32)) ∈ gtbl := gw 392 (by decide +kernel) rfl
theorem k393 : (Jvm.Cond.methodLink "BlinkMeshLaw" (75 : Nat) ({ cls := "BlinkMesh", name := "come", desc := "(II)I" } : Jvm.MethodName)) ∈ gtbl := gw 393 (by decide +kernel) rfl
theorem k394 : (Jvm.Cond.instanceMethod ({ cls := "BlinkMesh", name := "come", desc := "(II)I" } : Jvm.MethodName)) ∈ gtbl := gw 394 (by decide +kernel) rfl
theorem k395 : (Jvm.Cond.selects "BlinkMesh" ({ cls := "BlinkMesh", name := "come", desc := "(II)I" } : Jvm.MethodName) ({ cls := "BlinkMesh", name := "come", desc := "(II)I" } : Jvm.MethodName)) ∈ gtbl := gw 395 (by decide +kernel) rfl
theorem k396 : (Jvm.Cond.code ({ cls := "BlinkMesh", name := "come", desc := "(II)I" } : Jvm.MethodName) prog_1_method_2_code (4 : Nat) (Option.some Jvm.ClassFile.FieldType.int)) ∈ gtbl := gw 396 (by decide +kernel) rfl
theorem k397 : (Jvm.Cond.methodLink "BlinkMesh" (40 : Nat) ({ cls := "BlinkMesh$Mesh", name := "isWholePhase", desc := "(I)Z" } : Jvm.MethodName)) ∈ gtbl := gw 397 (by decide +kernel) rfl
theorem k398 : (Jvm.Cond.instanceMethod ({ cls := "BlinkMesh$Mesh", name := "isWholePhase", desc := "(I)Z" } : Jvm.MethodName)) ∈ gtbl := gw 398 (by decide +kernel) rfl
theorem k399 : (Jvm.Cond.selects "BlinkMesh$Mesh" ({ cls := "BlinkMesh$Mesh", name := "isWholePhase", desc := "(I)Z" } : Jvm.MethodName) ({ cls := "BlinkMesh$Mesh", name := "isWholePhase", desc := "(I)Z" } : Jvm.MethodName)) ∈ gtbl := gw 399 (by decide +kernel) rfl
theorem k400 : (Jvm.Cond.code ({ cls := "BlinkMesh$Mesh", name := "isWholePhase", desc := "(I)Z" } : Jvm.MethodName) prog_3_method_7_code (2 : Nat) (Option.some Jvm.ClassFile.FieldType.boolean)) ∈ gtbl := gw 400 (by decide +kernel) rfl
theorem k401 : (Jvm.Cond.methodLink "BlinkMesh" (44 : Nat) ({ cls := "BlinkMesh", name := "isRate", desc := "(I)Z" } : Jvm.MethodName)) ∈ gtbl := gw 401 (by decide +kernel) rfl
theorem k402 : (Jvm.Cond.static ({ cls := "BlinkMesh", name := "isRate", desc := "(I)Z" } : Jvm.MethodName)) ∈ gtbl := gw 402 (by decide +kernel) rfl
theorem k403 : (Jvm.Cond.code ({ cls := "BlinkMesh", name := "isRate", desc := "(I)Z" } : Jvm.MethodName) prog_1_method_25_code (1 : Nat) (Option.some Jvm.ClassFile.FieldType.boolean)) ∈ gtbl := gw 403 (by decide +kernel) rfl
theorem k404 : (Jvm.Cond.methodLink "BlinkMesh" (47 : Nat) ({ cls := "BlinkMesh$Mesh", name := "freeNumber", desc := "()I" } : Jvm.MethodName)) ∈ gtbl := gw 404 (by decide +kernel) rfl
theorem k405 : (Jvm.Cond.instanceMethod ({ cls := "BlinkMesh$Mesh", name := "freeNumber", desc := "()I" } : Jvm.MethodName)) ∈ gtbl := gw 405 (by decide +kernel) rfl
theorem k406 : (Jvm.Cond.selects "BlinkMesh$Mesh" ({ cls := "BlinkMesh$Mesh", name := "freeNumber", desc := "()I" } : Jvm.MethodName) ({ cls := "BlinkMesh$Mesh", name := "freeNumber", desc := "()I" } : Jvm.MethodName)) ∈ gtbl := gw 406 (by decide +kernel) rfl
theorem k407 : (Jvm.Cond.code ({ cls := "BlinkMesh$Mesh", name := "freeNumber", desc := "()I" } : Jvm.MethodName) prog_3_method_14_code (2 : Nat) (Option.some Jvm.ClassFile.FieldType.int)) ∈ gtbl := gw 407 (by decide +kernel) rfl
theorem k408 : (Jvm.Cond.methodLink "BlinkMesh" (55 : Nat) ({ cls := "BlinkMesh$Mesh", name := "place", desc := "(III)V" } : Jvm.MethodName)) ∈ gtbl := gw 408 (by decide +kernel) rfl
theorem k409 : (Jvm.Cond.instanceMethod ({ cls := "BlinkMesh$Mesh", name := "place", desc := "(III)V" } : Jvm.MethodName)) ∈ gtbl := gw 409 (by decide +kernel) rfl
theorem k410 : (Jvm.Cond.selects "BlinkMesh$Mesh" ({ cls := "BlinkMesh$Mesh", name := "place", desc := "(III)V" } : Jvm.MethodName) ({ cls := "BlinkMesh$Mesh", name := "place", desc := "(III)V" } : Jvm.MethodName)) ∈ gtbl := gw 410 (by decide +kernel) rfl
theorem k411 : (Jvm.Cond.code ({ cls := "BlinkMesh$Mesh", name := "place", desc := "(III)V" } : Jvm.MethodName) prog_3_method_15_code (4 : Nat) (Option.none : Option Jvm.ClassFile.FieldType)) ∈ gtbl := gw 411 (by decide +kernel) rfl
theorem k412 : (Jvm.Cond.methodLink "BlinkMeshLaw" (68 : Nat) ({ cls := "BlinkMeshLaw", name := "tale", desc := "(LBlinkMesh;)J" } : Jvm.MethodName)) ∈ gtbl := gw 412 (by decide +kernel) rfl
theorem k413 : (Jvm.Cond.static ({ cls := "BlinkMeshLaw", name := "tale", desc := "(LBlinkMesh;)J" } : Jvm.MethodName)) ∈ gtbl := gw 413 (by decide +kernel) rfl
theorem k414 : (Jvm.Cond.code ({ cls := "BlinkMeshLaw", name := "tale", desc := "(LBlinkMesh;)J" } : Jvm.MethodName) method_8_code (4 : Nat) (Option.some Jvm.ClassFile.FieldType.long)) ∈ gtbl := gw 414 rfl rfl
theorem k415 : (Jvm.Cond.constantLong "BlinkMeshLaw" (48 : Nat) (7 : Int64)) ∈ gtbl := gw 415 (by decide +kernel) rfl
theorem k416 : (Jvm.Cond.constantLong "BlinkMeshLaw" (50 : Nat) (31 : Int64)) ∈ gtbl := gw 416 (by decide +kernel) rfl
theorem k417 : (Jvm.Cond.methodLink "BlinkMeshLaw" (78 : Nat) ({ cls := "BlinkMesh", name := "goAway", desc := "(I)I" } : Jvm.MethodName)) ∈ gtbl := gw 417 (by decide +kernel) rfl
theorem k418 : (Jvm.Cond.instanceMethod ({ cls := "BlinkMesh", name := "goAway", desc := "(I)I" } : Jvm.MethodName)) ∈ gtbl := gw 418 (by decide +kernel) rfl
theorem k419 : (Jvm.Cond.selects "BlinkMesh" ({ cls := "BlinkMesh", name := "goAway", desc := "(I)I" } : Jvm.MethodName) ({ cls := "BlinkMesh", name := "goAway", desc := "(I)I" } : Jvm.MethodName)) ∈ gtbl := gw 419 (by decide +kernel) rfl
theorem k420 : (Jvm.Cond.code ({ cls := "BlinkMesh", name := "goAway", desc := "(I)I" } : Jvm.MethodName) prog_1_method_3_code (2 : Nat) (Option.some Jvm.ClassFile.FieldType.int)) ∈ gtbl := gw 420 (by decide +kernel) rfl
theorem k421 : (Jvm.Cond.methodLink "BlinkMesh" (62 : Nat) ({ cls := "BlinkMesh$Mesh", name := "remove", desc := "(I)I" } : Jvm.MethodName)) ∈ gtbl := gw 421 (by decide +kernel) rfl
theorem k422 : (Jvm.Cond.instanceMethod ({ cls := "BlinkMesh$Mesh", name := "remove", desc := "(I)I" } : Jvm.MethodName)) ∈ gtbl := gw 422 (by decide +kernel) rfl
theorem k423 : (Jvm.Cond.selects "BlinkMesh$Mesh" ({ cls := "BlinkMesh$Mesh", name := "remove", desc := "(I)I" } : Jvm.MethodName) ({ cls := "BlinkMesh$Mesh", name := "remove", desc := "(I)I" } : Jvm.MethodName)) ∈ gtbl := gw 423 (by decide +kernel) rfl
theorem k424 : (Jvm.Cond.code ({ cls := "BlinkMesh$Mesh", name := "remove", desc := "(I)I" } : Jvm.MethodName) prog_3_method_16_code (5 : Nat) (Option.some Jvm.ClassFile.FieldType.int)) ∈ gtbl := gw 424 (by decide +kernel) rfl
theorem k425 : (Jvm.Cond.methodLink "BlinkMeshLaw" (81 : Nat) ({ cls := "BlinkMesh", name := "turn", desc := "(IZ)I" } : Jvm.MethodName)) ∈ gtbl := gw 425 (by decide +kernel) rfl
theorem k426 : (Jvm.Cond.instanceMethod ({ cls := "BlinkMesh", name := "turn", desc := "(IZ)I" } : Jvm.MethodName)) ∈ gtbl := gw 426 (by decide +kernel) rfl
theorem k427 : (Jvm.Cond.selects "BlinkMesh" ({ cls := "BlinkMesh", name := "turn", desc := "(IZ)I" } : Jvm.MethodName) ({ cls := "BlinkMesh", name := "turn", desc := "(IZ)I" } : Jvm.MethodName)) ∈ gtbl := gw 427 (by decide +kernel) rfl
theorem k428 : (Jvm.Cond.code ({ cls := "BlinkMesh", name := "turn", desc := "(IZ)I" } : Jvm.MethodName) prog_1_method_4_code (3 : Nat) (Option.some Jvm.ClassFile.FieldType.int)) ∈ gtbl := gw 428 (by decide +kernel) rfl
theorem k429 : (Jvm.Cond.methodLink "BlinkMesh" (66 : Nat) ({ cls := "BlinkMesh$Mesh", name := "isOn", desc := "(I)Z" } : Jvm.MethodName)) ∈ gtbl := gw 429 (by decide +kernel) rfl
theorem k430 : (Jvm.Cond.methodLink "BlinkMesh" (69 : Nat) ({ cls := "BlinkMesh$Mesh", name := "switchTo", desc := "(IZ)V" } : Jvm.MethodName)) ∈ gtbl := gw 430 (by decide +kernel) rfl
theorem k431 : (Jvm.Cond.instanceMethod ({ cls := "BlinkMesh$Mesh", name := "switchTo", desc := "(IZ)V" } : Jvm.MethodName)) ∈ gtbl := gw 431 (by decide +kernel) rfl
theorem k432 : (Jvm.Cond.selects "BlinkMesh$Mesh" ({ cls := "BlinkMesh$Mesh", name := "switchTo", desc := "(IZ)V" } : Jvm.MethodName) ({ cls := "BlinkMesh$Mesh", name := "switchTo", desc := "(IZ)V" } : Jvm.MethodName)) ∈ gtbl := gw 432 (by decide +kernel) rfl
theorem k433 : (Jvm.Cond.code ({ cls := "BlinkMesh$Mesh", name := "switchTo", desc := "(IZ)V" } : Jvm.MethodName) prog_3_method_18_code (3 : Nat) (Option.none : Option Jvm.ClassFile.FieldType)) ∈ gtbl := gw 433 (by decide +kernel) rfl
theorem k434 : (Jvm.Cond.methodLink "BlinkMeshLaw" (85 : Nat) ({ cls := "BlinkMeshLaw", name := "linkedSo", desc := "(LBlinkMesh;II)Z" } : Jvm.MethodName)) ∈ gtbl := gw 434 (by decide +kernel) rfl
theorem k435 : (Jvm.Cond.static ({ cls := "BlinkMeshLaw", name := "linkedSo", desc := "(LBlinkMesh;II)Z" } : Jvm.MethodName)) ∈ gtbl := gw 435 (by decide +kernel) rfl
theorem k436 : (Jvm.Cond.code ({ cls := "BlinkMeshLaw", name := "linkedSo", desc := "(LBlinkMesh;II)Z" } : Jvm.MethodName) method_11_code (6 : Nat) (Option.some Jvm.ClassFile.FieldType.boolean)) ∈ gtbl := gw 436 rfl rfl
theorem k437 : (Jvm.Cond.methodLink "BlinkMeshLaw" (58 : Nat) ({ cls := "BlinkMesh", name := "ifLinked", desc := "(II)I" } : Jvm.MethodName)) ∈ gtbl := gw 437 (by decide +kernel) rfl
theorem k438 : (Jvm.Cond.instanceMethod ({ cls := "BlinkMesh", name := "ifLinked", desc := "(II)I" } : Jvm.MethodName)) ∈ gtbl := gw 438 (by decide +kernel) rfl
theorem k439 : (Jvm.Cond.selects "BlinkMesh" ({ cls := "BlinkMesh", name := "ifLinked", desc := "(II)I" } : Jvm.MethodName) ({ cls := "BlinkMesh", name := "ifLinked", desc := "(II)I" } : Jvm.MethodName)) ∈ gtbl := gw 439 (by decide +kernel) rfl
theorem k440 : (Jvm.Cond.code ({ cls := "BlinkMesh", name := "ifLinked", desc := "(II)I" } : Jvm.MethodName) prog_1_method_21_code (3 : Nat) (Option.some Jvm.ClassFile.FieldType.int)) ∈ gtbl := gw 440 (by decide +kernel) rfl
theorem k441 : (Jvm.Cond.methodLink "BlinkMesh" (76 : Nat) ({ cls := "BlinkMesh$Mesh", name := "isLinked", desc := "(II)Z" } : Jvm.MethodName)) ∈ gtbl := gw 441 (by decide +kernel) rfl
theorem k442 : (Jvm.Cond.methodLink "BlinkMeshLaw" (61 : Nat) ({ cls := "BlinkMesh", name := "link", desc := "(IIZ)I" } : Jvm.MethodName)) ∈ gtbl := gw 442 (by decide +kernel) rfl
theorem k443 : (Jvm.Cond.instanceMethod ({ cls := "BlinkMesh", name := "link", desc := "(IIZ)I" } : Jvm.MethodName)) ∈ gtbl := gw 443 (by decide +kernel) rfl
theorem k444 : (Jvm.Cond.selects "BlinkMesh" ({ cls := "BlinkMesh", name := "link", desc := "(IIZ)I" } : Jvm.MethodName) ({ cls := "BlinkMesh", name := "link", desc := "(IIZ)I" } : Jvm.MethodName)) ∈ gtbl := gw 444 (by decide +kernel) rfl
theorem k445 : (Jvm.Cond.code ({ cls := "BlinkMesh", name := "link", desc := "(IIZ)I" } : Jvm.MethodName) prog_1_method_5_code (4 : Nat) (Option.some Jvm.ClassFile.FieldType.int)) ∈ gtbl := gw 445 (by decide +kernel) rfl
theorem k446 : (Jvm.Cond.methodLink "BlinkMesh" (84 : Nat) ({ cls := "BlinkMesh$Mesh", name := "links", desc := "()I" } : Jvm.MethodName)) ∈ gtbl := gw 446 (by decide +kernel) rfl
theorem k447 : (Jvm.Cond.methodLink "BlinkMeshLaw" (89 : Nat) ({ cls := "BlinkMesh", name := "tune", desc := "(III)I" } : Jvm.MethodName)) ∈ gtbl := gw 447 (by decide +kernel) rfl
theorem k448 : (Jvm.Cond.instanceMethod ({ cls := "BlinkMesh", name := "tune", desc := "(III)I" } : Jvm.MethodName)) ∈ gtbl := gw 448 (by decide +kernel) rfl
theorem k449 : (Jvm.Cond.selects "BlinkMesh" ({ cls := "BlinkMesh", name := "tune", desc := "(III)I" } : Jvm.MethodName) ({ cls := "BlinkMesh", name := "tune", desc := "(III)I" } : Jvm.MethodName)) ∈ gtbl := gw 449 (by decide +kernel) rfl
theorem k450 : (Jvm.Cond.code ({ cls := "BlinkMesh", name := "tune", desc := "(III)I" } : Jvm.MethodName) prog_1_method_6_code (4 : Nat) (Option.some Jvm.ClassFile.FieldType.int)) ∈ gtbl := gw 450 (by decide +kernel) rfl
theorem k451 : (Jvm.Cond.methodLink "BlinkMesh" (87 : Nat) ({ cls := "BlinkMesh$Mesh", name := "retune", desc := "(III)I" } : Jvm.MethodName)) ∈ gtbl := gw 451 (by decide +kernel) rfl
theorem k452 : (Jvm.Cond.instanceMethod ({ cls := "BlinkMesh$Mesh", name := "retune", desc := "(III)I" } : Jvm.MethodName)) ∈ gtbl := gw 452 (by decide +kernel) rfl
theorem k453 : (Jvm.Cond.selects "BlinkMesh$Mesh" ({ cls := "BlinkMesh$Mesh", name := "retune", desc := "(III)I" } : Jvm.MethodName) ({ cls := "BlinkMesh$Mesh", name := "retune", desc := "(III)I" } : Jvm.MethodName)) ∈ gtbl := gw 453 (by decide +kernel) rfl
theorem k454 : (Jvm.Cond.code ({ cls := "BlinkMesh$Mesh", name := "retune", desc := "(III)I" } : Jvm.MethodName) prog_3_method_20_code (5 : Nat) (Option.some Jvm.ClassFile.FieldType.int)) ∈ gtbl := gw 454 (by decide +kernel) rfl
theorem k455 : (Jvm.Cond.methodLink "BlinkMeshLaw" (93 : Nat) ({ cls := "BlinkMesh", name := "set", desc := "(II)I" } : Jvm.MethodName)) ∈ gtbl := gw 455 (by decide +kernel) rfl
theorem k456 : (Jvm.Cond.instanceMethod ({ cls := "BlinkMesh", name := "set", desc := "(II)I" } : Jvm.MethodName)) ∈ gtbl := gw 456 (by decide +kernel) rfl
theorem k457 : (Jvm.Cond.selects "BlinkMesh" ({ cls := "BlinkMesh", name := "set", desc := "(II)I" } : Jvm.MethodName) ({ cls := "BlinkMesh", name := "set", desc := "(II)I" } : Jvm.MethodName)) ∈ gtbl := gw 457 (by decide +kernel) rfl
theorem k458 : (Jvm.Cond.code ({ cls := "BlinkMesh", name := "set", desc := "(II)I" } : Jvm.MethodName) prog_1_method_7_code (3 : Nat) (Option.some Jvm.ClassFile.FieldType.int)) ∈ gtbl := gw 458 (by decide +kernel) rfl
theorem k459 : (Jvm.Cond.fieldLink "BlinkMesh" (91 : Nat) "BlinkMesh" "LEAST_SETTING" "[I") ∈ gtbl := gw 459 (by decide +kernel) rfl
theorem k461 : (Jvm.Cond.fieldLink "BlinkMesh" (95 : Nat) "BlinkMesh" "GREATEST_SETTING" "[I") ∈ gtbl := gw 461 (by decide +kernel) rfl
theorem k463 : (Jvm.Cond.methodLink "BlinkMesh" (101 : Nat) ({ cls := "BlinkMesh$Mesh", name := "changeSetting", desc := "(II)I" } : Jvm.MethodName)) ∈ gtbl := gw 463 (by decide +kernel) rfl
theorem k464 : (Jvm.Cond.instanceMethod ({ cls := "BlinkMesh$Mesh", name := "changeSetting", desc := "(II)I" } : Jvm.MethodName)) ∈ gtbl := gw 464 (by decide +kernel) rfl
theorem k465 : (Jvm.Cond.selects "BlinkMesh$Mesh" ({ cls := "BlinkMesh$Mesh", name := "changeSetting", desc := "(II)I" } : Jvm.MethodName) ({ cls := "BlinkMesh$Mesh", name := "changeSetting", desc := "(II)I" } : Jvm.MethodName)) ∈ gtbl := gw 465 (by decide +kernel) rfl
theorem k466 : (Jvm.Cond.code ({ cls := "BlinkMesh$Mesh", name := "changeSetting", desc := "(II)I" } : Jvm.MethodName) prog_3_method_21_code (4 : Nat) (Option.some Jvm.ClassFile.FieldType.int)) ∈ gtbl := gw 466 (by decide +kernel) rfl
theorem k467 : (Jvm.Cond.methodLink "BlinkMesh$Mesh" (89 : Nat) ({ cls := "BlinkMesh$Mesh", name := "fitPhases", desc := "()V" } : Jvm.MethodName)) ∈ gtbl := gw 467 (by decide +kernel) rfl
theorem k468 : (Jvm.Cond.instanceMethod ({ cls := "BlinkMesh$Mesh", name := "fitPhases", desc := "()V" } : Jvm.MethodName)) ∈ gtbl := gw 468 (by decide +kernel) rfl
theorem k469 : (Jvm.Cond.selects "BlinkMesh$Mesh" ({ cls := "BlinkMesh$Mesh", name := "fitPhases", desc := "()V" } : Jvm.MethodName) ({ cls := "BlinkMesh$Mesh", name := "fitPhases", desc := "()V" } : Jvm.MethodName)) ∈ gtbl := gw 469 (by decide +kernel) rfl
theorem k470 : (Jvm.Cond.code ({ cls := "BlinkMesh$Mesh", name := "fitPhases", desc := "()V" } : Jvm.MethodName) prog_3_method_22_code (2 : Nat) (Option.none : Option Jvm.ClassFile.FieldType)) ∈ gtbl := gw 470 (by decide +kernel) rfl
theorem k471 : (Jvm.Cond.methodLink "BlinkMeshLaw" (96 : Nat) ({ cls := "BlinkMeshLaw", name := "passSo", desc := "(LBlinkMesh;II)Z" } : Jvm.MethodName)) ∈ gtbl := gw 471 (by decide +kernel) rfl
theorem k472 : (Jvm.Cond.static ({ cls := "BlinkMeshLaw", name := "passSo", desc := "(LBlinkMesh;II)Z" } : Jvm.MethodName)) ∈ gtbl := gw 472 (by decide +kernel) rfl
theorem k473 : (Jvm.Cond.code ({ cls := "BlinkMeshLaw", name := "passSo", desc := "(LBlinkMesh;II)Z" } : Jvm.MethodName) method_13_code (8 : Nat) (Option.some Jvm.ClassFile.FieldType.boolean)) ∈ gtbl := gw 473 rfl rfl
theorem k474 : (Jvm.Cond.methodLink "BlinkMeshLaw" (106 : Nat) ({ cls := "BlinkMeshLaw", name := "bestSo", desc := "(LBlinkMesh;)Z" } : Jvm.MethodName)) ∈ gtbl := gw 474 (by decide +kernel) rfl
theorem k475 : (Jvm.Cond.static ({ cls := "BlinkMeshLaw", name := "bestSo", desc := "(LBlinkMesh;)Z" } : Jvm.MethodName)) ∈ gtbl := gw 475 (by decide +kernel) rfl
theorem k476 : (Jvm.Cond.code ({ cls := "BlinkMeshLaw", name := "bestSo", desc := "(LBlinkMesh;)Z" } : Jvm.MethodName) method_12_code (9 : Nat) (Option.some Jvm.ClassFile.FieldType.boolean)) ∈ gtbl := gw 476 rfl rfl
theorem k477 : (Jvm.Cond.methodLink "BlinkMeshLaw" (109 : Nat) ({ cls := "BlinkMeshLaw", name := "twins", desc := "(LBlinkMesh;I)Z" } : Jvm.MethodName)) ∈ gtbl := gw 477 (by decide +kernel) rfl
theorem k478 : (Jvm.Cond.static ({ cls := "BlinkMeshLaw", name := "twins", desc := "(LBlinkMesh;I)Z" } : Jvm.MethodName)) ∈ gtbl := gw 478 (by decide +kernel) rfl
theorem k479 : (Jvm.Cond.code ({ cls := "BlinkMeshLaw", name := "twins", desc := "(LBlinkMesh;I)Z" } : Jvm.MethodName) method_14_code (9 : Nat) (Option.some Jvm.ClassFile.FieldType.boolean)) ∈ gtbl := gw 479 rfl rfl
theorem kp0 : Cond.selects "BlinkMesh" ⟨"BlinkMesh", "spreadWith", "(II)I"⟩ ⟨"BlinkMesh", "spreadWith", "(II)I"⟩ ∈ gtbl := gwp 0 (by decide +kernel) rfl
theorem kp1 : Cond.selects "BlinkMesh$Mesh" ⟨"BlinkMesh$Mesh", "grow", "()I"⟩ ⟨"BlinkMesh$Mesh", "grow", "()I"⟩ ∈ gtbl := gwp 1 (by decide +kernel) rfl
theorem kp2 : Cond.selects "BlinkMesh$Mesh" ⟨"BlinkMesh$Mesh", "fullPhase", "()I"⟩ ⟨"BlinkMesh$Mesh", "fullPhase", "()I"⟩ ∈ gtbl := gwp 2 (by decide +kernel) rfl
theorem kp3 : Cond.selects "BlinkMesh$Mesh" ⟨"BlinkMesh$Mesh", "blink", "(I)V"⟩ ⟨"BlinkMesh$Mesh", "blink", "(I)V"⟩ ∈ gtbl := gwp 3 (by decide +kernel) rfl
theorem kp4 : Cond.selects "BlinkMesh$Mesh" ⟨"BlinkMesh$Mesh", "pushFrom", "(II)I"⟩ ⟨"BlinkMesh$Mesh", "pushFrom", "(II)I"⟩ ∈ gtbl := gwp 4 (by decide +kernel) rfl
theorem kp5 : Cond.selects "BlinkMesh$Mesh" ⟨"BlinkMesh$Mesh", "pushAll", "(I)I"⟩ ⟨"BlinkMesh$Mesh", "pushAll", "(I)I"⟩ ∈ gtbl := gwp 5 (by decide +kernel) rfl
theorem kp6 : Cond.selects "BlinkMesh$Mesh" ⟨"BlinkMesh$Mesh", "account", "(I)V"⟩ ⟨"BlinkMesh$Mesh", "account", "(I)V"⟩ ∈ gtbl := gwp 6 (by decide +kernel) rfl
theorem kp7 : Cond.selects "BlinkMesh$Mesh" ⟨"BlinkMesh$Mesh", "pieceOf", "(I)I"⟩ ⟨"BlinkMesh$Mesh", "pieceOf", "(I)I"⟩ ∈ gtbl := gwp 7 (by decide +kernel) rfl
theorem kp8 : Cond.selects "BlinkMesh$Mesh" ⟨"BlinkMesh$Mesh", "neighbours", "(I)I"⟩ ⟨"BlinkMesh$Mesh", "neighbours", "(I)I"⟩ ∈ gtbl := gwp 8 (by decide +kernel) rfl
theorem kp9 : Cond.selects "BlinkMesh$Mesh" ⟨"BlinkMesh$Mesh", "agreeing", "(I)I"⟩ ⟨"BlinkMesh$Mesh", "agreeing", "(I)I"⟩ ∈ gtbl := gwp 9 (by decide +kernel) rfl
theorem kp10 : Cond.selects "BlinkMesh" ⟨"BlinkMesh", "trialTogetherIn", "()I"⟩ ⟨"BlinkMesh", "trialTogetherIn", "()I"⟩ ∈ gtbl := gwp 10 (by decide +kernel) rfl
theorem kp11 : Cond.selects "BlinkMesh$History" ⟨"BlinkMesh$History", "dropOldest", "()V"⟩ ⟨"BlinkMesh$History", "dropOldest", "()V"⟩ ∈ gtbl := gwp 11 (by decide +kernel) rfl
