theorem k441 : (Jvm.Cond.code ({ cls := "BlinkMesh", name := "apart", desc := "(II)I" } : Jvm.MethodName) prog_1_method_16_code (3 : Nat) (Option.some Jvm.ClassFile.FieldType.int)) ∈ gtbl := gw 441 (by decide +kernel) rfl
theorem k442 : (Jvm.Cond.methodLink "BlinkMesh" (154 : Nat) ({ cls := "BlinkMesh$Mesh", name := "distance", desc := "(II)I" } : Jvm.MethodName)) ∈ gtbl := gw 442 (by decide +kernel) rfl
theorem k443 : (Jvm.Cond.instanceMethod ({ cls := "BlinkMesh$Mesh", name := "distance", desc := "(II)I" } : Jvm.MethodName)) ∈ gtbl := gw 443 (by decide +kernel) rfl
theorem k444 : (Jvm.Cond.selects "BlinkMesh$Mesh" ({ cls := "BlinkMesh$Mesh", name := "distance", desc := "(II)I" } : Jvm.MethodName) ({ cls := "BlinkMesh$Mesh", name := "distance", desc := "(II)I" } : Jvm.MethodName)) ∈ gtbl := gw 444 (by decide +kernel) rfl
theorem k445 : (Jvm.Cond.code ({ cls := "BlinkMesh$Mesh", name := "distance", desc := "(II)I" } : Jvm.MethodName) prog_3_method_31_code (4 : Nat) (Option.some Jvm.ClassFile.FieldType.int)) ∈ gtbl := gw 445 (by decide +kernel) rfl
theorem k446 : (Jvm.Cond.methodLink "BlinkMesh$Mesh" (124 : Nat) ({ cls := "java/lang/Math", name := "abs", desc := "(I)I" } : Jvm.MethodName)) ∈ gtbl := gw 446 (by decide +kernel) rfl
theorem k447 : (Jvm.Cond.static ({ cls := "java/lang/Math", name := "abs", desc := "(I)I" } : Jvm.MethodName)) ∈ gtbl := gw 447 (by decide +kernel) rfl
theorem k448 : (Jvm.Cond.code ({ cls := "java/lang/Math", name := "abs", desc := "(I)I" } : Jvm.MethodName) prog_9_method_59_code (1 : Nat) (Option.some Jvm.ClassFile.FieldType.int)) ∈ gtbl := gw 448 (by decide +kernel) rfl
theorem k449 : (Jvm.Cond.methodLink "BlinkMeshLaw" (80 : Nat) ({ cls := "BlinkMesh", name := "next", desc := "(I)I" } : Jvm.MethodName)) ∈ gtbl := gw 449 (by decide +kernel) rfl
theorem k450 : (Jvm.Cond.instanceMethod ({ cls := "BlinkMesh", name := "next", desc := "(I)I" } : Jvm.MethodName)) ∈ gtbl := gw 450 (by decide +kernel) rfl
theorem k451 : (Jvm.Cond.selects "BlinkMesh" ({ cls := "BlinkMesh", name := "next", desc := "(I)I" } : Jvm.MethodName) ({ cls := "BlinkMesh", name := "next", desc := "(I)I" } : Jvm.MethodName)) ∈ gtbl := gw 451 (by decide +kernel) rfl
theorem k452 : (Jvm.Cond.code ({ cls := "BlinkMesh", name := "next", desc := "(I)I" } : Jvm.MethodName) prog_1_method_17_code (4 : Nat) (Option.some Jvm.ClassFile.FieldType.int)) ∈ gtbl := gw 452 (by decide +kernel) rfl
theorem k453 : (Jvm.Cond.methodLink "BlinkMesh" (157 : Nat) ({ cls := "BlinkMesh$Mesh", name := "tickOnce", desc := "()I" } : Jvm.MethodName)) ∈ gtbl := gw 453 (by decide +kernel) rfl
theorem k454 : (Jvm.Cond.methodLink "BlinkMeshLaw" (84 : Nat) ({ cls := "BlinkMesh", name := "togetherIn", desc := "()I" } : Jvm.MethodName)) ∈ gtbl := gw 454 (by decide +kernel) rfl
theorem k455 : (Jvm.Cond.instanceMethod ({ cls := "BlinkMesh", name := "togetherIn", desc := "()I" } : Jvm.MethodName)) ∈ gtbl := gw 455 (by decide +kernel) rfl
theorem k456 : (Jvm.Cond.selects "BlinkMesh" ({ cls := "BlinkMesh", name := "togetherIn", desc := "()I" } : Jvm.MethodName) ({ cls := "BlinkMesh", name := "togetherIn", desc := "()I" } : Jvm.MethodName)) ∈ gtbl := gw 456 (by decide +kernel) rfl
theorem k457 : (Jvm.Cond.code ({ cls := "BlinkMesh", name := "togetherIn", desc := "()I" } : Jvm.MethodName) prog_1_method_18_code (1 : Nat) (Option.some Jvm.ClassFile.FieldType.int)) ∈ gtbl := gw 457 (by decide +kernel) rfl
theorem k458 : (Jvm.Cond.methodLink "BlinkMesh" (160 : Nat) ({ cls := "BlinkMesh", name := "trialTogetherIn", desc := "()I" } : Jvm.MethodName)) ∈ gtbl := gw 458 (by decide +kernel) rfl
theorem k460 : (Jvm.Cond.instanceMethod ({ cls := "BlinkMesh", name := "trialTogetherIn", desc := "()I" } : Jvm.MethodName)) ∈ gtbl := gw 460 (by decide +kernel) rfl
theorem k461 : (Jvm.Cond.code ({ cls := "BlinkMesh", name := "trialTogetherIn", desc := "()I" } : Jvm.MethodName) prog_1_method_27_code (2 : Nat) (Option.some Jvm.ClassFile.FieldType.int)) ∈ gtbl := gw 461 (by decide +kernel) rfl
theorem k462 : (Jvm.Cond.methodLink "BlinkMesh" (163 : Nat) ({ cls := "BlinkMesh$Mesh", name := "isTogether", desc := "()Z" } : Jvm.MethodName)) ∈ gtbl := gw 462 (by decide +kernel) rfl
theorem k463 : (Jvm.Cond.instanceMethod ({ cls := "BlinkMesh$Mesh", name := "isTogether", desc := "()Z" } : Jvm.MethodName)) ∈ gtbl := gw 463 (by decide +kernel) rfl
theorem k464 : (Jvm.Cond.selects "BlinkMesh$Mesh" ({ cls := "BlinkMesh$Mesh", name := "isTogether", desc := "()Z" } : Jvm.MethodName) ({ cls := "BlinkMesh$Mesh", name := "isTogether", desc := "()Z" } : Jvm.MethodName)) ∈ gtbl := gw 464 (by decide +kernel) rfl
theorem k465 : (Jvm.Cond.code ({ cls := "BlinkMesh$Mesh", name := "isTogether", desc := "()Z" } : Jvm.MethodName) prog_3_method_33_code (3 : Nat) (Option.some Jvm.ClassFile.FieldType.boolean)) ∈ gtbl := gw 465 (by decide +kernel) rfl
theorem k466 : (Jvm.Cond.methodLink "BlinkMeshLaw" (88 : Nat) ({ cls := "BlinkMesh", name := "reason", desc := "()I" } : Jvm.MethodName)) ∈ gtbl := gw 466 (by decide +kernel) rfl
theorem k467 : (Jvm.Cond.instanceMethod ({ cls := "BlinkMesh", name := "reason", desc := "()I" } : Jvm.MethodName)) ∈ gtbl := gw 467 (by decide +kernel) rfl
theorem k468 : (Jvm.Cond.selects "BlinkMesh" ({ cls := "BlinkMesh", name := "reason", desc := "()I" } : Jvm.MethodName) ({ cls := "BlinkMesh", name := "reason", desc := "()I" } : Jvm.MethodName)) ∈ gtbl := gw 468 (by decide +kernel) rfl
theorem k469 : (Jvm.Cond.code ({ cls := "BlinkMesh", name := "reason", desc := "()I" } : Jvm.MethodName) prog_1_method_19_code (1 : Nat) (Option.some Jvm.ClassFile.FieldType.int)) ∈ gtbl := gw 469 (by decide +kernel) rfl
theorem k470 : (Jvm.Cond.methodLink "BlinkMesh" (166 : Nat) ({ cls := "BlinkMesh$Mesh", name := "pieces", desc := "()I" } : Jvm.MethodName)) ∈ gtbl := gw 470 (by decide +kernel) rfl
theorem k471 : (Jvm.Cond.instanceMethod ({ cls := "BlinkMesh$Mesh", name := "pieces", desc := "()I" } : Jvm.MethodName)) ∈ gtbl := gw 471 (by decide +kernel) rfl
theorem k472 : (Jvm.Cond.selects "BlinkMesh$Mesh" ({ cls := "BlinkMesh$Mesh", name := "pieces", desc := "()I" } : Jvm.MethodName) ({ cls := "BlinkMesh$Mesh", name := "pieces", desc := "()I" } : Jvm.MethodName)) ∈ gtbl := gw 472 (by decide +kernel) rfl
theorem k473 : (Jvm.Cond.code ({ cls := "BlinkMesh$Mesh", name := "pieces", desc := "()I" } : Jvm.MethodName) prog_3_method_37_code (4 : Nat) (Option.some Jvm.ClassFile.FieldType.int)) ∈ gtbl := gw 473 (by decide +kernel) rfl
theorem k474 : (Jvm.Cond.methodLink "BlinkMesh" (169 : Nat) ({ cls := "BlinkMesh$Mesh", name := "hasUnlikeRates", desc := "()Z" } : Jvm.MethodName)) ∈ gtbl := gw 474 (by decide +kernel) rfl
theorem k475 : (Jvm.Cond.instanceMethod ({ cls := "BlinkMesh$Mesh", name := "hasUnlikeRates", desc := "()Z" } : Jvm.MethodName)) ∈ gtbl := gw 475 (by decide +kernel) rfl
theorem k476 : (Jvm.Cond.selects "BlinkMesh$Mesh" ({ cls := "BlinkMesh$Mesh", name := "hasUnlikeRates", desc := "()Z" } : Jvm.MethodName) ({ cls := "BlinkMesh$Mesh", name := "hasUnlikeRates", desc := "()Z" } : Jvm.MethodName)) ∈ gtbl := gw 476 (by decide +kernel) rfl
theorem k477 : (Jvm.Cond.code ({ cls := "BlinkMesh$Mesh", name := "hasUnlikeRates", desc := "()Z" } : Jvm.MethodName) prog_3_method_34_code (3 : Nat) (Option.some Jvm.ClassFile.FieldType.boolean)) ∈ gtbl := gw 477 (by decide +kernel) rfl
theorem k478 : (Jvm.Cond.methodLink "BlinkMeshLaw" (92 : Nat) ({ cls := "BlinkMesh", name := "spread", desc := "()I" } : Jvm.MethodName)) ∈ gtbl := gw 478 (by decide +kernel) rfl
theorem k479 : (Jvm.Cond.instanceMethod ({ cls := "BlinkMesh", name := "spread", desc := "()I" } : Jvm.MethodName)) ∈ gtbl := gw 479 (by decide +kernel) rfl
theorem k480 : (Jvm.Cond.selects "BlinkMesh" ({ cls := "BlinkMesh", name := "spread", desc := "()I" } : Jvm.MethodName) ({ cls := "BlinkMesh", name := "spread", desc := "()I" } : Jvm.MethodName)) ∈ gtbl := gw 480 (by decide +kernel) rfl
theorem k481 : (Jvm.Cond.code ({ cls := "BlinkMesh", name := "spread", desc := "()I" } : Jvm.MethodName) prog_1_method_20_code (1 : Nat) (Option.some Jvm.ClassFile.FieldType.int)) ∈ gtbl := gw 481 (by decide +kernel) rfl
theorem k482 : (Jvm.Cond.methodLink "BlinkMesh" (172 : Nat) ({ cls := "BlinkMesh$Mesh", name := "greatestDistance", desc := "()I" } : Jvm.MethodName)) ∈ gtbl := gw 482 (by decide +kernel) rfl
theorem k483 : (Jvm.Cond.instanceMethod ({ cls := "BlinkMesh$Mesh", name := "greatestDistance", desc := "()I" } : Jvm.MethodName)) ∈ gtbl := gw 483 (by decide +kernel) rfl
theorem k484 : (Jvm.Cond.selects "BlinkMesh$Mesh" ({ cls := "BlinkMesh$Mesh", name := "greatestDistance", desc := "()I" } : Jvm.MethodName) ({ cls := "BlinkMesh$Mesh", name := "greatestDistance", desc := "()I" } : Jvm.MethodName)) ∈ gtbl := gw 484 (by decide +kernel) rfl
theorem k485 : (Jvm.Cond.code ({ cls := "BlinkMesh$Mesh", name := "greatestDistance", desc := "()I" } : Jvm.MethodName) prog_3_method_32_code (4 : Nat) (Option.some Jvm.ClassFile.FieldType.int)) ∈ gtbl := gw 485 (by decide +kernel) rfl
theorem k486 : (Jvm.Cond.methodLink "BlinkMesh$Mesh" (127 : Nat) ({ cls := "BlinkMesh$Mesh", name := "distance", desc := "(II)I" } : Jvm.MethodName)) ∈ gtbl := gw 486 (by decide +kernel) rfl
theorem k487 : (Jvm.Cond.methodLink "BlinkMeshLaw" (96 : Nat) ({ cls := "BlinkMesh", name := "ifLinked", desc := "(II)I" } : Jvm.MethodName)) ∈ gtbl := gw 487 (by decide +kernel) rfl
theorem k488 : (Jvm.Cond.instanceMethod ({ cls := "BlinkMesh", name := "ifLinked", desc := "(II)I" } : Jvm.MethodName)) ∈ gtbl := gw 488 (by decide +kernel) rfl
theorem k489 : (Jvm.Cond.selects "BlinkMesh" ({ cls := "BlinkMesh", name := "ifLinked", desc := "(II)I" } : Jvm.MethodName) ({ cls := "BlinkMesh", name := "ifLinked", desc := "(II)I" } : Jvm.MethodName)) ∈ gtbl := gw 489 (by decide +kernel) rfl
theorem k490 : (Jvm.Cond.code ({ cls := "BlinkMesh", name := "ifLinked", desc := "(II)I" } : Jvm.MethodName) prog_1_method_21_code (3 : Nat) (Option.some Jvm.ClassFile.FieldType.int)) ∈ gtbl := gw 490 (by decide +kernel) rfl
theorem k491 : (Jvm.Cond.methodLink "BlinkMeshLaw" (100 : Nat) ({ cls := "BlinkMesh", name := "hub", desc := "()I" } : Jvm.MethodName)) ∈ gtbl := gw 491 (by decide +kernel) rfl
theorem k492 : (Jvm.Cond.instanceMethod ({ cls := "BlinkMesh", name := "hub", desc := "()I" } : Jvm.MethodName)) ∈ gtbl := gw 492 (by decide +kernel) rfl
theorem k493 : (Jvm.Cond.selects "BlinkMesh" ({ cls := "BlinkMesh", name := "hub", desc := "()I" } : Jvm.MethodName) ({ cls := "BlinkMesh", name := "hub", desc := "()I" } : Jvm.MethodName)) ∈ gtbl := gw 493 (by decide +kernel) rfl
theorem k494 : (Jvm.Cond.code ({ cls := "BlinkMesh", name := "hub", desc := "()I" } : Jvm.MethodName) prog_1_method_22_code (2 : Nat) (Option.some Jvm.ClassFile.FieldType.int)) ∈ gtbl := gw 494 (by decide +kernel) rfl
theorem k495 : (Jvm.Cond.methodLink "BlinkMesh" (175 : Nat) ({ cls := "BlinkMesh$Mesh", name := "lampWithMostLinks", desc := "()I" } : Jvm.MethodName)) ∈ gtbl := gw 495 (by decide +kernel) rfl
theorem k496 : (Jvm.Cond.instanceMethod ({ cls := "BlinkMesh$Mesh", name := "lampWithMostLinks", desc := "()I" } : Jvm.MethodName)) ∈ gtbl := gw 496 (by decide +kernel) rfl
theorem k497 : (Jvm.Cond.selects "BlinkMesh$Mesh" ({ cls := "BlinkMesh$Mesh", name := "lampWithMostLinks", desc := "()I" } : Jvm.MethodName) ({ cls := "BlinkMesh$Mesh", name := "lampWithMostLinks", desc := "()I" } : Jvm.MethodName)) ∈ gtbl := gw 497 (by decide +kernel) rfl
theorem k498 : (Jvm.Cond.code ({ cls := "BlinkMesh$Mesh", name := "lampWithMostLinks", desc := "()I" } : Jvm.MethodName) prog_3_method_39_code (5 : Nat) (Option.some Jvm.ClassFile.FieldType.int)) ∈ gtbl := gw 498 (by decide +kernel) rfl
theorem k499 : (Jvm.Cond.methodLink "BlinkMeshLaw" (104 : Nat) ({ cls := "BlinkMesh", name := "bestLink", desc := "(I)I" } : Jvm.MethodName)) ∈ gtbl := gw 499 (by decide +kernel) rfl
theorem k500 : (Jvm.Cond.instanceMethod ({ cls := "BlinkMesh", name := "bestLink", desc := "(I)I" } : Jvm.MethodName)) ∈ gtbl := gw 500 (by decide +kernel) rfl
theorem k501 : (Jvm.Cond.selects "BlinkMesh" ({ cls := "BlinkMesh", name := "bestLink", desc := "(I)I" } : Jvm.MethodName) ({ cls := "BlinkMesh", name := "bestLink", desc := "(I)I" } : Jvm.MethodName)) ∈ gtbl := gw 501 (by decide +kernel) rfl
theorem k502 : (Jvm.Cond.code ({ cls := "BlinkMesh", name := "bestLink", desc := "(I)I" } : Jvm.MethodName) prog_1_method_23_code (8 : Nat) (Option.some Jvm.ClassFile.FieldType.int)) ∈ gtbl := gw 502 (by decide +kernel) rfl
theorem k503 : (Jvm.Cond.methodLink "BlinkMesh" (178 : Nat) ({ cls := "BlinkMesh$Mesh", name := "couldLink", desc := "(II)Z" } : Jvm.MethodName)) ∈ gtbl := gw 503 (by decide +kernel) rfl
theorem k504 : (Jvm.Cond.instanceMethod ({ cls := "BlinkMesh$Mesh", name := "couldLink", desc := "(II)Z" } : Jvm.MethodName)) ∈ gtbl := gw 504 (by decide +kernel) rfl
theorem k505 : (Jvm.Cond.selects "BlinkMesh$Mesh" ({ cls := "BlinkMesh$Mesh", name := "couldLink", desc := "(II)Z" } : Jvm.MethodName) ({ cls := "BlinkMesh$Mesh", name := "couldLink", desc := "(II)Z" } : Jvm.MethodName)) ∈ gtbl := gw 505 (by decide +kernel) rfl
theorem k506 : (Jvm.Cond.code ({ cls := "BlinkMesh$Mesh", name := "couldLink", desc := "(II)Z" } : Jvm.MethodName) prog_3_method_6_code (3 : Nat) (Option.some Jvm.ClassFile.FieldType.boolean)) ∈ gtbl := gw 506 (by decide +kernel) rfl
theorem k507 : (Jvm.Cond.methodLink "BlinkMesh$Mesh" (80 : Nat) ({ cls := "BlinkMesh$Mesh", name := "isLinked", desc := "(II)Z" } : Jvm.MethodName)) ∈ gtbl := gw 507 (by decide +kernel) rfl
theorem k508 : (Jvm.Cond.methodLink "BlinkMesh" (181 : Nat) ({ cls := "BlinkMesh", name := "spreadWith", desc := "(II)I" } : Jvm.MethodName)) ∈ gtbl := gw 508 (by decide +kernel) rfl
theorem k510 : (Jvm.Cond.instanceMethod ({ cls := "BlinkMesh", name := "spreadWith", desc := "(II)I" } : Jvm.MethodName)) ∈ gtbl := gw 510 (by decide +kernel) rfl
theorem k511 : (Jvm.Cond.code ({ cls := "BlinkMesh", name := "spreadWith", desc := "(II)I" } : Jvm.MethodName) prog_1_method_28_code (3 : Nat) (Option.some Jvm.ClassFile.FieldType.int)) ∈ gtbl := gw 511 (by decide +kernel) rfl
theorem k512 : (Jvm.Cond.methodLink "BlinkMeshLaw" (108 : Nat) ({ cls := "BlinkMesh", name := "count", desc := "(I)I" } : Jvm.MethodName)) ∈ gtbl := gw 512 (by decide +kernel) rfl
theorem k513 : (Jvm.Cond.instanceMethod ({ cls := "BlinkMesh", name := "count", desc := "(I)I" } : Jvm.MethodName)) ∈ gtbl := gw 513 (by decide +kernel) rfl
theorem k514 : (Jvm.Cond.selects "BlinkMesh" ({ cls := "BlinkMesh", name := "count", desc := "(I)I" } : Jvm.MethodName) ({ cls := "BlinkMesh", name := "count", desc := "(I)I" } : Jvm.MethodName)) ∈ gtbl := gw 514 (by decide +kernel) rfl
theorem k515 : (Jvm.Cond.code ({ cls := "BlinkMesh", name := "count", desc := "(I)I" } : Jvm.MethodName) prog_1_method_24_code (2 : Nat) (Option.some Jvm.ClassFile.FieldType.int)) ∈ gtbl := gw 515 (by decide +kernel) rfl
theorem k516 : (Jvm.Cond.methodLink "BlinkMesh" (184 : Nat) ({ cls := "BlinkMesh$Mesh", name := "tellMesh", desc := "(I)I" } : Jvm.MethodName)) ∈ gtbl := gw 516 (by decide +kernel) rfl
theorem k517 : (Jvm.Cond.instanceMethod ({ cls := "BlinkMesh$Mesh", name := "tellMesh", desc := "(I)I" } : Jvm.MethodName)) ∈ gtbl := gw 517 (by decide +kernel) rfl
theorem k518 : (Jvm.Cond.selects "BlinkMesh$Mesh" ({ cls := "BlinkMesh$Mesh", name := "tellMesh", desc := "(I)I" } : Jvm.MethodName) ({ cls := "BlinkMesh$Mesh", name := "tellMesh", desc := "(I)I" } : Jvm.MethodName)) ∈ gtbl := gw 518 (by decide +kernel) rfl
theorem k519 : (Jvm.Cond.code ({ cls := "BlinkMesh$Mesh", name := "tellMesh", desc := "(I)I" } : Jvm.MethodName) prog_3_method_41_code (2 : Nat) (Option.some Jvm.ClassFile.FieldType.int)) ∈ gtbl := gw 519 (by decide +kernel) rfl
theorem k520 : (Jvm.Cond.methodLink "BlinkMesh$Mesh" (139 : Nat) ({ cls := "BlinkMesh$Mesh", name := "lamps", desc := "()I" } : Jvm.MethodName)) ∈ gtbl := gw 520 (by decide +kernel) rfl
theorem k521 : (Jvm.Cond.methodLink "BlinkMesh$Mesh" (142 : Nat) ({ cls := "BlinkMesh$Mesh", name := "lampsOn", desc := "()I" } : Jvm.MethodName)) ∈ gtbl := gw 521 (by decide +kernel) rfl
theorem k522 : (Jvm.Cond.methodLink "BlinkMesh$Mesh" (145 : Nat) ({ cls := "BlinkMesh$Mesh", name := "links", desc := "()I" } : Jvm.MethodName)) ∈ gtbl := gw 522 (by decide +kernel) rfl
theorem k523 : (Jvm.Cond.methodLink "BlinkMesh$Mesh" (148 : Nat) ({ cls := "BlinkMesh$Mesh", name := "pieces", desc := "()I" } : Jvm.MethodName)) ∈ gtbl := gw 523 (by decide +kernel) rfl
theorem k524 : (Jvm.Cond.classLink "BlinkMeshLaw" (10 : Nat) "BlinkMeshModel") ∈ gtbl := gw 524 (by decide +kernel) rfl
theorem k525 : (Jvm.Cond.instantiable "BlinkMeshModel" (13 : Nat)) ∈ gtbl := gw 525 (by decide +kernel) rfl
theorem k526 : (Jvm.Cond.methodLink "BlinkMeshLaw" (12 : Nat) ({ cls := "BlinkMeshModel", name := "<init>", desc := "()V" } : Jvm.MethodName)) ∈ gtbl := gw 526 (by decide +kernel) rfl
theorem k527 : (Jvm.Cond.instanceMethod ({ cls := "BlinkMeshModel", name := "<init>", desc := "()V" } : Jvm.MethodName)) ∈ gtbl := gw 527 (by decide +kernel) rfl
theorem k528 : (Jvm.Cond.code ({ cls := "BlinkMeshModel", name := "<init>", desc := "()V" } : Jvm.MethodName) prog_6_method_1_code (1 : Nat) (Option.none : Option Jvm.ClassFile.FieldType)) ∈ gtbl := gw 528 (by decide +kernel) rfl
theorem k529 : (Jvm.Cond.methodLink "BlinkMeshModel" (1 : Nat) ({ cls := "java/lang/Object", name := "<init>", desc := "()V" } : Jvm.MethodName)) ∈ gtbl := gw 529 (by decide +kernel) rfl
theorem k530 : (Jvm.Cond.fieldLink "BlinkMeshModel" (7 : Nat) "BlinkMeshModel" "s" "[I") ∈ gtbl := gw 530 (by decide +kernel) rfl
theorem k531 : (Jvm.Cond.fieldLink "BlinkMeshModel" (13 : Nat) "BlinkMeshModel" "history" "[I") ∈ gtbl := gw 531 (by decide +kernel) rfl
theorem k532 : (Jvm.Cond.fieldLink "BlinkMeshModel" (43 : Nat) "BlinkMeshModel" "kept" "I") ∈ gtbl := gw 532 (by decide +kernel) rfl
theorem k533 : (Jvm.Cond.fieldLink "BlinkMeshModel" (16 : Nat) "BlinkMeshModel" "snapshot" "[I") ∈ gtbl := gw 533 (by decide +kernel) rfl
theorem k534 : (Jvm.Cond.fieldLink "BlinkMeshModel" (150 : Nat) "BlinkMeshModel" "isTaken" "Z") ∈ gtbl := gw 534 (by decide +kernel) rfl
theorem k535 : (Jvm.Cond.fieldLink "BlinkMeshModel" (19 : Nat) "BlinkMeshModel" "before" "[I") ∈ gtbl := gw 535 (by decide +kernel) rfl
theorem k536 : (Jvm.Cond.fieldLink "BlinkMeshModel" (22 : Nat) "BlinkMeshModel" "text" "[C") ∈ gtbl := gw 536 (by decide +kernel) rfl
theorem k537 : (Jvm.Cond.fieldLink "BlinkMeshModel" (119 : Nat) "BlinkMeshModel" "length" "I") ∈ gtbl := gw 537 (by decide +kernel) rfl
theorem k538 : (Jvm.Cond.fieldLink "BlinkMeshModel" (122 : Nat) "BlinkMeshModel" "place" "I") ∈ gtbl := gw 538 (by decide +kernel) rfl
theorem k539 : (Jvm.Cond.fieldLink "BlinkMeshModel" (134 : Nat) "BlinkMeshModel" "told" "I") ∈ gtbl := gw 539 (by decide +kernel) rfl
theorem k540 : (Jvm.Cond.fieldLink "BlinkMeshModel" (26 : Nat) "BlinkMeshModel" "phases" "[I") ∈ gtbl := gw 540 (by decide +kernel) rfl
theorem k541 : (Jvm.Cond.fieldLink "BlinkMeshModel" (29 : Nat) "BlinkMeshModel" "rates" "[I") ∈ gtbl := gw 541 (by decide +kernel) rfl
theorem k542 : (Jvm.Cond.fieldLink "BlinkMeshModel" (32 : Nat) "BlinkMeshModel" "toldLinks" "[I") ∈ gtbl := gw 542 (by decide +kernel) rfl
theorem k570 : (Jvm.Cond.methodLink "BlinkMeshLaw" (17 : Nat) ({ cls := "BlinkMeshModel", name := "come", desc := "(II)I" } : Jvm.MethodName)) ∈ gtbl := gw 570 (by decide +kernel) rfl
theorem k571 : (Jvm.Cond.instanceMethod ({ cls := "BlinkMeshModel", name := "come", desc := "(II)I" } : Jvm.MethodName)) ∈ gtbl := gw 571 (by decide +kernel) rfl
theorem k572 : (Jvm.Cond.selects "BlinkMeshModel" ({ cls := "BlinkMeshModel", name := "come", desc := "(II)I" } : Jvm.MethodName) ({ cls := "BlinkMeshModel", name := "come", desc := "(II)I" } : Jvm.MethodName)) ∈ gtbl := gw 572 (by decide +kernel) rfl
theorem k573 : (Jvm.Cond.code ({ cls := "BlinkMeshModel", name := "come", desc := "(II)I" } : Jvm.MethodName) prog_6_method_27_code (4 : Nat) (Option.some Jvm.ClassFile.FieldType.int)) ∈ gtbl := gw 573 (by decide +kernel) rfl
theorem k574 : (Jvm.Cond.methodLink "BlinkMeshModel" (35 : Nat) ({ cls := "BlinkMeshModel", name := "in", desc := "(III)Z" } : Jvm.MethodName)) ∈ gtbl := gw 574 (by decide +kernel) rfl
theorem k575 : (Jvm.Cond.static ({ cls := "BlinkMeshModel", name := "in", desc := "(III)Z" } : Jvm.MethodName)) ∈ gtbl := gw 575 (by decide +kernel) rfl
theorem k576 : (Jvm.Cond.code ({ cls := "BlinkMeshModel", name := "in", desc := "(III)Z" } : Jvm.MethodName) prog_6_method_3_code (3 : Nat) (Option.some Jvm.ClassFile.FieldType.boolean)) ∈ gtbl := gw 576 (by decide +kernel) rfl
theorem k577 : (Jvm.Cond.methodLink "BlinkMeshModel" (39 : Nat) ({ cls := "BlinkMeshModel", name := "of", desc := "(II)I" } : Jvm.MethodName)) ∈ gtbl := gw 577 (by decide +kernel) rfl
theorem k579 : (Jvm.Cond.instanceMethod ({ cls := "BlinkMeshModel", name := "of", desc := "(II)I" } : Jvm.MethodName)) ∈ gtbl := gw 579 (by decide +kernel) rfl
theorem k580 : (Jvm.Cond.code ({ cls := "BlinkMeshModel", name := "of", desc := "(II)I" } : Jvm.MethodName) prog_6_method_6_code (3 : Nat) (Option.some Jvm.ClassFile.FieldType.int)) ∈ gtbl := gw 580 (by decide +kernel) rfl
theorem k581 : (Jvm.Cond.methodLink "BlinkMeshModel" (98 : Nat) ({ cls := "BlinkMeshModel", name := "record", desc := "()V" } : Jvm.MethodName)) ∈ gtbl := gw 581 (by decide +kernel) rfl
theorem k583 : (Jvm.Cond.instanceMethod ({ cls := "BlinkMeshModel", name := "record", desc := "()V" } : Jvm.MethodName)) ∈ gtbl := gw 583 (by decide +kernel) rfl
theorem k584 : (Jvm.Cond.code ({ cls := "BlinkMeshModel", name := "record", desc := "()V" } : Jvm.MethodName) prog_6_method_12_code (2 : Nat) (Option.none : Option Jvm.ClassFile.FieldType)) ∈ gtbl := gw 584 (by decide +kernel) rfl
theorem k585 : (Jvm.Cond.methodLink "BlinkMeshModel" (47 : Nat) ({ cls := "BlinkMeshModel", name := "copy", desc := "([II[II)V" } : Jvm.MethodName)) ∈ gtbl := gw 585 (by decide +kernel) rfl
theorem k586 : (Jvm.Cond.static ({ cls := "BlinkMeshModel", name := "copy", desc := "([II[II)V" } : Jvm.MethodName)) ∈ gtbl := gw 586 (by decide +kernel) rfl
theorem k587 : (Jvm.Cond.code ({ cls := "BlinkMeshModel", name := "copy", desc := "([II[II)V" } : Jvm.MethodName) prog_6_method_11_code (5 : Nat) (Option.none : Option Jvm.ClassFile.FieldType)) ∈ gtbl := gw 587 (by decide +kernel) rfl
theorem k588 : (Jvm.Cond.methodLink "BlinkMeshModel" (101 : Nat) ({ cls := "BlinkMeshModel", name := "lay", desc := "(III)V" } : Jvm.MethodName)) ∈ gtbl := gw 588 (by decide +kernel) rfl
theorem k590 : (Jvm.Cond.instanceMethod ({ cls := "BlinkMeshModel", name := "lay", desc := "(III)V" } : Jvm.MethodName)) ∈ gtbl := gw 590 (by decide +kernel) rfl
theorem k591 : (Jvm.Cond.code ({ cls := "BlinkMeshModel", name := "lay", desc := "(III)V" } : Jvm.MethodName) prog_6_method_28_code (5 : Nat) (Option.none : Option Jvm.ClassFile.FieldType)) ∈ gtbl := gw 591 (by decide +kernel) rfl
theorem k592 : (Jvm.Cond.methodLink "BlinkMeshModel" (62 : Nat) ({ cls := "BlinkMeshModel", name := "put", desc := "(III)V" } : Jvm.MethodName)) ∈ gtbl := gw 592 (by decide +kernel) rfl
theorem k594 : (Jvm.Cond.instanceMethod ({ cls := "BlinkMeshModel", name := "put", desc := "(III)V" } : Jvm.MethodName)) ∈ gtbl := gw 594 (by decide +kernel) rfl
theorem k595 : (Jvm.Cond.code ({ cls := "BlinkMeshModel", name := "put", desc := "(III)V" } : Jvm.MethodName) prog_6_method_7_code (4 : Nat) (Option.none : Option Jvm.ClassFile.FieldType)) ∈ gtbl := gw 595 (by decide +kernel) rfl
theorem k596 : (Jvm.Cond.methodLink "BlinkMeshModel" (70 : Nat) ({ cls := "BlinkMeshModel", name := "round", desc := "()I" } : Jvm.MethodName)) ∈ gtbl := gw 596 (by decide +kernel) rfl
theorem k598 : (Jvm.Cond.instanceMethod ({ cls := "BlinkMeshModel", name := "round", desc := "()I" } : Jvm.MethodName)) ∈ gtbl := gw 598 (by decide +kernel) rfl
theorem k599 : (Jvm.Cond.code ({ cls := "BlinkMeshModel", name := "round", desc := "()I" } : Jvm.MethodName) prog_6_method_10_code (1 : Nat) (Option.some Jvm.ClassFile.FieldType.int)) ∈ gtbl := gw 599 (by decide +kernel) rfl
theorem k600 : (Jvm.Cond.methodLink "BlinkMeshLaw" (22 : Nat) ({ cls := "BlinkMeshModel", name := "goAway", desc := "(I)I" } : Jvm.MethodName)) ∈ gtbl := gw 600 (by decide +kernel) rfl
theorem k601 : (Jvm.Cond.instanceMethod ({ cls := "BlinkMeshModel", name := "goAway", desc := "(I)I" } : Jvm.MethodName)) ∈ gtbl := gw 601 (by decide +kernel) rfl
theorem k602 : (Jvm.Cond.selects "BlinkMeshModel" ({ cls := "BlinkMeshModel", name := "goAway", desc := "(I)I" } : Jvm.MethodName) ({ cls := "BlinkMeshModel", name := "goAway", desc := "(I)I" } : Jvm.MethodName)) ∈ gtbl := gw 602 (by decide +kernel) rfl
theorem k603 : (Jvm.Cond.code ({ cls := "BlinkMeshModel", name := "goAway", desc := "(I)I" } : Jvm.MethodName) prog_6_method_30_code (4 : Nat) (Option.some Jvm.ClassFile.FieldType.int)) ∈ gtbl := gw 603 (by decide +kernel) rfl
theorem k604 : (Jvm.Cond.methodLink "BlinkMeshModel" (104 : Nat) ({ cls := "BlinkMeshModel", name := "isLamp", desc := "(I)Z" } : Jvm.MethodName)) ∈ gtbl := gw 604 (by decide +kernel) rfl
theorem k606 : (Jvm.Cond.instanceMethod ({ cls := "BlinkMeshModel", name := "isLamp", desc := "(I)Z" } : Jvm.MethodName)) ∈ gtbl := gw 606 (by decide +kernel) rfl
theorem k607 : (Jvm.Cond.code ({ cls := "BlinkMeshModel", name := "isLamp", desc := "(I)Z" } : Jvm.MethodName) prog_6_method_8_code (2 : Nat) (Option.some Jvm.ClassFile.FieldType.boolean)) ∈ gtbl := gw 607 (by decide +kernel) rfl
theorem k608 : (Jvm.Cond.methodLink "BlinkMeshModel" (55 : Nat) ({ cls := "BlinkMeshModel", name := "bits", desc := "(I)I" } : Jvm.MethodName)) ∈ gtbl := gw 608 (by decide +kernel) rfl
theorem k609 : (Jvm.Cond.static ({ cls := "BlinkMeshModel", name := "bits", desc := "(I)I" } : Jvm.MethodName)) ∈ gtbl := gw 609 (by decide +kernel) rfl
theorem k610 : (Jvm.Cond.code ({ cls := "BlinkMeshModel", name := "bits", desc := "(I)I" } : Jvm.MethodName) prog_6_method_5_code (3 : Nat) (Option.some Jvm.ClassFile.FieldType.int)) ∈ gtbl := gw 610 (by decide +kernel) rfl
theorem k611 : (Jvm.Cond.methodLink "BlinkMeshLaw" (27 : Nat) ({ cls := "BlinkMeshModel", name := "turn", desc := "(IZ)I" } : Jvm.MethodName)) ∈ gtbl := gw 611 (by decide +kernel) rfl
theorem k612 : (Jvm.Cond.instanceMethod ({ cls := "BlinkMeshModel", name := "turn", desc := "(IZ)I" } : Jvm.MethodName)) ∈ gtbl := gw 612 (by decide +kernel) rfl
theorem k613 : (Jvm.Cond.selects "BlinkMeshModel" ({ cls := "BlinkMeshModel", name := "turn", desc := "(IZ)I" } : Jvm.MethodName) ({ cls := "BlinkMeshModel", name := "turn", desc := "(IZ)I" } : Jvm.MethodName)) ∈ gtbl := gw 613 (by decide +kernel) rfl
theorem k614 : (Jvm.Cond.code ({ cls := "BlinkMeshModel", name := "turn", desc := "(IZ)I" } : Jvm.MethodName) prog_6_method_31_code (3 : Nat) (Option.some Jvm.ClassFile.FieldType.int)) ∈ gtbl := gw 614 (by decide +kernel) rfl
theorem k615 : (Jvm.Cond.methodLink "BlinkMeshModel" (58 : Nat) ({ cls := "BlinkMeshModel", name := "isOn", desc := "(I)Z" } : Jvm.MethodName)) ∈ gtbl := gw 615 (by decide +kernel) rfl
theorem k617 : (Jvm.Cond.instanceMethod ({ cls := "BlinkMeshModel", name := "isOn", desc := "(I)Z" } : Jvm.MethodName)) ∈ gtbl := gw 617 (by decide +kernel) rfl
theorem k618 : (Jvm.Cond.code ({ cls := "BlinkMeshModel", name := "isOn", desc := "(I)Z" } : Jvm.MethodName) prog_6_method_9_code (2 : Nat) (Option.some Jvm.ClassFile.FieldType.boolean)) ∈ gtbl := gw 618 (by decide +kernel) rfl
theorem k619 : (Jvm.Cond.methodLink "BlinkMeshModel" (86 : Nat) ({ cls := "BlinkMeshModel", name := "lampsOn", desc := "()I" } : Jvm.MethodName)) ∈ gtbl := gw 619 (by decide +kernel) rfl
theorem k621 : (Jvm.Cond.instanceMethod ({ cls := "BlinkMeshModel", name := "lampsOn", desc := "()I" } : Jvm.MethodName)) ∈ gtbl := gw 621 (by decide +kernel) rfl
theorem k622 : (Jvm.Cond.code ({ cls := "BlinkMeshModel", name := "lampsOn", desc := "()I" } : Jvm.MethodName) prog_6_method_14_code (1 : Nat) (Option.some Jvm.ClassFile.FieldType.int)) ∈ gtbl := gw 622 (by decide +kernel) rfl
theorem k623 : (Jvm.Cond.methodLink "BlinkMeshModel" (51 : Nat) ({ cls := "BlinkMeshModel", name := "setOf", desc := "(I)I" } : Jvm.MethodName)) ∈ gtbl := gw 623 (by decide +kernel) rfl
theorem k625 : (Jvm.Cond.instanceMethod ({ cls := "BlinkMeshModel", name := "setOf", desc := "(I)I" } : Jvm.MethodName)) ∈ gtbl := gw 625 (by decide +kernel) rfl
theorem k626 : (Jvm.Cond.code ({ cls := "BlinkMeshModel", name := "setOf", desc := "(I)I" } : Jvm.MethodName) prog_6_method_13_code (4 : Nat) (Option.some Jvm.ClassFile.FieldType.int)) ∈ gtbl := gw 626 (by decide +kernel) rfl
theorem k627 : (Jvm.Cond.methodLink "BlinkMeshLaw" (32 : Nat) ({ cls := "BlinkMeshModel", name := "link", desc := "(IIZ)I" } : Jvm.MethodName)) ∈ gtbl := gw 627 (by decide +kernel) rfl
theorem k628 : (Jvm.Cond.instanceMethod ({ cls := "BlinkMeshModel", name := "link", desc := "(IIZ)I" } : Jvm.MethodName)) ∈ gtbl := gw 628 (by decide +kernel) rfl
theorem k629 : (Jvm.Cond.selects "BlinkMeshModel" ({ cls := "BlinkMeshModel", name := "link", desc := "(IIZ)I" } : Jvm.MethodName) ({ cls := "BlinkMeshModel", name := "link", desc := "(IIZ)I" } : Jvm.MethodName)) ∈ gtbl := gw 629 (by decide +kernel) rfl
theorem k630 : (Jvm.Cond.code ({ cls := "BlinkMeshModel", name := "link", desc := "(IIZ)I" } : Jvm.MethodName) prog_6_method_32_code (4 : Nat) (Option.some Jvm.ClassFile.FieldType.int)) ∈ gtbl := gw 630 (by decide +kernel) rfl
theorem k631 : (Jvm.Cond.methodLink "BlinkMeshModel" (66 : Nat) ({ cls := "BlinkMeshModel", name := "has", desc := "(II)Z" } : Jvm.MethodName)) ∈ gtbl := gw 631 (by decide +kernel) rfl
theorem k632 : (Jvm.Cond.static ({ cls := "BlinkMeshModel", name := "has", desc := "(II)Z" } : Jvm.MethodName)) ∈ gtbl := gw 632 (by decide +kernel) rfl
theorem k633 : (Jvm.Cond.code ({ cls := "BlinkMeshModel", name := "has", desc := "(II)Z" } : Jvm.MethodName) prog_6_method_4_code (2 : Nat) (Option.some Jvm.ClassFile.FieldType.boolean)) ∈ gtbl := gw 633 (by decide +kernel) rfl
theorem k634 : (Jvm.Cond.methodLink "BlinkMeshModel" (107 : Nat) ({ cls := "BlinkMeshModel", name := "connect", desc := "(IIZ)V" } : Jvm.MethodName)) ∈ gtbl := gw 634 (by decide +kernel) rfl
theorem k636 : (Jvm.Cond.instanceMethod ({ cls := "BlinkMeshModel", name := "connect", desc := "(IIZ)V" } : Jvm.MethodName)) ∈ gtbl := gw 636 (by decide +kernel) rfl
theorem k637 : (Jvm.Cond.code ({ cls := "BlinkMeshModel", name := "connect", desc := "(IIZ)V" } : Jvm.MethodName) prog_6_method_29_code (4 : Nat) (Option.none : Option Jvm.ClassFile.FieldType)) ∈ gtbl := gw 637 (by decide +kernel) rfl
theorem k638 : (Jvm.Cond.methodLink "BlinkMeshModel" (111 : Nat) ({ cls := "BlinkMeshModel", name := "links", desc := "()I" } : Jvm.MethodName)) ∈ gtbl := gw 638 (by decide +kernel) rfl
theorem k640 : (Jvm.Cond.instanceMethod ({ cls := "BlinkMeshModel", name := "links", desc := "()I" } : Jvm.MethodName)) ∈ gtbl := gw 640 (by decide +kernel) rfl
theorem k641 : (Jvm.Cond.code ({ cls := "BlinkMeshModel", name := "links", desc := "()I" } : Jvm.MethodName) prog_6_method_15_code (3 : Nat) (Option.some Jvm.ClassFile.FieldType.int)) ∈ gtbl := gw 641 (by decide +kernel) rfl
theorem k642 : (Jvm.Cond.methodLink "BlinkMeshLaw" (37 : Nat) ({ cls := "BlinkMeshModel", name := "tune", desc := "(III)I" } : Jvm.MethodName)) ∈ gtbl := gw 642 (by decide +kernel) rfl
theorem k643 : (Jvm.Cond.instanceMethod ({ cls := "BlinkMeshModel", name := "tune", desc := "(III)I" } : Jvm.MethodName)) ∈ gtbl := gw 643 (by decide +kernel) rfl
theorem k644 : (Jvm.Cond.selects "BlinkMeshModel" ({ cls := "BlinkMeshModel", name := "tune", desc := "(III)I" } : Jvm.MethodName) ({ cls := "BlinkMeshModel", name := "tune", desc := "(III)I" } : Jvm.MethodName)) ∈ gtbl := gw 644 (by decide +kernel) rfl
theorem k645 : (Jvm.Cond.code ({ cls := "BlinkMeshModel", name := "tune", desc := "(III)I" } : Jvm.MethodName) prog_6_method_33_code (5 : Nat) (Option.some Jvm.ClassFile.FieldType.int)) ∈ gtbl := gw 645 (by decide +kernel) rfl
theorem k646 : (Jvm.Cond.methodLink "BlinkMeshLaw" (41 : Nat) ({ cls := "BlinkMeshModel", name := "set", desc := "(II)I" } : Jvm.MethodName)) ∈ gtbl := gw 646 (by decide +kernel) rfl
theorem k647 : (Jvm.Cond.instanceMethod ({ cls := "BlinkMeshModel", name := "set", desc := "(II)I" } : Jvm.MethodName)) ∈ gtbl := gw 647 (by decide +kernel) rfl
theorem k648 : (Jvm.Cond.selects "BlinkMeshModel" ({ cls := "BlinkMeshModel", name := "set", desc := "(II)I" } : Jvm.MethodName) ({ cls := "BlinkMeshModel", name := "set", desc := "(II)I" } : Jvm.MethodName)) ∈ gtbl := gw 648 (by decide +kernel) rfl
theorem k649 : (Jvm.Cond.code ({ cls := "BlinkMeshModel", name := "set", desc := "(II)I" } : Jvm.MethodName) prog_6_method_34_code (6 : Nat) (Option.some Jvm.ClassFile.FieldType.int)) ∈ gtbl := gw 649 (by decide +kernel) rfl
theorem k650 : (Jvm.Cond.methodLink "BlinkMeshLaw" (45 : Nat) ({ cls := "BlinkMeshModel", name := "pass", desc := "(I)I" } : Jvm.MethodName)) ∈ gtbl := gw 650 (by decide +kernel) rfl
theorem k651 : (Jvm.Cond.instanceMethod ({ cls := "BlinkMeshModel", name := "pass", desc := "(I)I" } : Jvm.MethodName)) ∈ gtbl := gw 651 (by decide +kernel) rfl
theorem k652 : (Jvm.Cond.selects "BlinkMeshModel" ({ cls := "BlinkMeshModel", name := "pass", desc := "(I)I" } : Jvm.MethodName) ({ cls := "BlinkMeshModel", name := "pass", desc := "(I)I" } : Jvm.MethodName)) ∈ gtbl := gw 652 (by decide +kernel) rfl
theorem k653 : (Jvm.Cond.code ({ cls := "BlinkMeshModel", name := "pass", desc := "(I)I" } : Jvm.MethodName) prog_6_method_35_code (3 : Nat) (Option.some Jvm.ClassFile.FieldType.int)) ∈ gtbl := gw 653 (by decide +kernel) rfl
theorem k654 : (Jvm.Cond.constant "BlinkMeshModel" (114 : Nat) (99999 : Int32)) ∈ gtbl := gw 654 (by decide +kernel) rfl
theorem k655 : (Jvm.Cond.methodLink "BlinkMeshModel" (115 : Nat) ({ cls := "BlinkMeshModel", name := "goOn", desc := "(I)V" } : Jvm.MethodName)) ∈ gtbl := gw 655 (by decide +kernel) rfl
theorem k657 : (Jvm.Cond.instanceMethod ({ cls := "BlinkMeshModel", name := "goOn", desc := "(I)V" } : Jvm.MethodName)) ∈ gtbl := gw 657 (by decide +kernel) rfl
theorem k658 : (Jvm.Cond.code ({ cls := "BlinkMeshModel", name := "goOn", desc := "(I)V" } : Jvm.MethodName) prog_6_method_20_code (3 : Nat) (Option.none : Option Jvm.ClassFile.FieldType)) ∈ gtbl := gw 658 (by decide +kernel) rfl
theorem k659 : (Jvm.Cond.methodLink "BlinkMeshModel" (83 : Nat) ({ cls := "BlinkMeshModel", name := "tick", desc := "()I" } : Jvm.MethodName)) ∈ gtbl := gw 659 (by decide +kernel) rfl
theorem k661 : (Jvm.Cond.instanceMethod ({ cls := "BlinkMeshModel", name := "tick", desc := "()I" } : Jvm.MethodName)) ∈ gtbl := gw 661 (by decide +kernel) rfl
theorem k662 : (Jvm.Cond.code ({ cls := "BlinkMeshModel", name := "tick", desc := "()I" } : Jvm.MethodName) prog_6_method_19_code (4 : Nat) (Option.some Jvm.ClassFile.FieldType.int)) ∈ gtbl := gw 662 (by decide +kernel) rfl
theorem k663 : (Jvm.Cond.methodLink "BlinkMeshModel" (74 : Nat) ({ cls := "BlinkMeshModel", name := "grow", desc := "()V" } : Jvm.MethodName)) ∈ gtbl := gw 663 (by decide +kernel) rfl
theorem k665 : (Jvm.Cond.instanceMethod ({ cls := "BlinkMeshModel", name := "grow", desc := "()V" } : Jvm.MethodName)) ∈ gtbl := gw 665 (by decide +kernel) rfl
theorem k666 : (Jvm.Cond.code ({ cls := "BlinkMeshModel", name := "grow", desc := "()V" } : Jvm.MethodName) prog_6_method_16_code (2 : Nat) (Option.none : Option Jvm.ClassFile.FieldType)) ∈ gtbl := gw 666 (by decide +kernel) rfl
theorem k667 : (Jvm.Cond.methodLink "BlinkMeshModel" (77 : Nat) ({ cls := "BlinkMeshModel", name := "blink", desc := "(I)I" } : Jvm.MethodName)) ∈ gtbl := gw 667 (by decide +kernel) rfl
theorem k669 : (Jvm.Cond.instanceMethod ({ cls := "BlinkMeshModel", name := "blink", desc := "(I)I" } : Jvm.MethodName)) ∈ gtbl := gw 669 (by decide +kernel) rfl
theorem k670 : (Jvm.Cond.code ({ cls := "BlinkMeshModel", name := "blink", desc := "(I)I" } : Jvm.MethodName) prog_6_method_17_code (4 : Nat) (Option.some Jvm.ClassFile.FieldType.int)) ∈ gtbl := gw 670 (by decide +kernel) rfl
theorem k671 : (Jvm.Cond.methodLink "BlinkMeshModel" (80 : Nat) ({ cls := "BlinkMeshModel", name := "push", desc := "(II)I" } : Jvm.MethodName)) ∈ gtbl := gw 671 (by decide +kernel) rfl
theorem k673 : (Jvm.Cond.instanceMethod ({ cls := "BlinkMeshModel", name := "push", desc := "(II)I" } : Jvm.MethodName)) ∈ gtbl := gw 673 (by decide +kernel) rfl
theorem k674 : (Jvm.Cond.code ({ cls := "BlinkMeshModel", name := "push", desc := "(II)I" } : Jvm.MethodName) prog_6_method_18_code (8 : Nat) (Option.some Jvm.ClassFile.FieldType.int)) ∈ gtbl := gw 674 (by decide +kernel) rfl
theorem k675 : (Jvm.Cond.methodLink "BlinkMeshLaw" (50 : Nat) ({ cls := "BlinkMeshModel", name := "type", desc := "(C)I" } : Jvm.MethodName)) ∈ gtbl := gw 675 (by decide +kernel) rfl
theorem k676 : (Jvm.Cond.instanceMethod ({ cls := "BlinkMeshModel", name := "type", desc := "(C)I" } : Jvm.MethodName)) ∈ gtbl := gw 676 (by decide +kernel) rfl
theorem k677 : (Jvm.Cond.selects "BlinkMeshModel" ({ cls := "BlinkMeshModel", name := "type", desc := "(C)I" } : Jvm.MethodName) ({ cls := "BlinkMeshModel", name := "type", desc := "(C)I" } : Jvm.MethodName)) ∈ gtbl := gw 677 (by decide +kernel) rfl
theorem k678 : (Jvm.Cond.code ({ cls := "BlinkMeshModel", name := "type", desc := "(C)I" } : Jvm.MethodName) prog_6_method_36_code (2 : Nat) (Option.some Jvm.ClassFile.FieldType.int)) ∈ gtbl := gw 678 (by decide +kernel) rfl
theorem k679 : (Jvm.Cond.methodLink "BlinkMeshLaw" (55 : Nat) ({ cls := "BlinkMeshModel", name := "clearText", desc := "()I" } : Jvm.MethodName)) ∈ gtbl := gw 679 (by decide +kernel) rfl
theorem k680 : (Jvm.Cond.instanceMethod ({ cls := "BlinkMeshModel", name := "clearText", desc := "()I" } : Jvm.MethodName)) ∈ gtbl := gw 680 (by decide +kernel) rfl
theorem k681 : (Jvm.Cond.selects "BlinkMeshModel" ({ cls := "BlinkMeshModel", name := "clearText", desc := "()I" } : Jvm.MethodName) ({ cls := "BlinkMeshModel", name := "clearText", desc := "()I" } : Jvm.MethodName)) ∈ gtbl := gw 681 (by decide +kernel) rfl
theorem k682 : (Jvm.Cond.code ({ cls := "BlinkMeshModel", name := "clearText", desc := "()I" } : Jvm.MethodName) prog_6_method_37_code (2 : Nat) (Option.some Jvm.ClassFile.FieldType.int)) ∈ gtbl := gw 682 (by decide +kernel) rfl
theorem k683 : (Jvm.Cond.methodLink "BlinkMeshLaw" (59 : Nat) ({ cls := "BlinkMeshModel", name := "readMesh", desc := "()I" } : Jvm.MethodName)) ∈ gtbl := gw 683 (by decide +kernel) rfl
theorem k684 : (Jvm.Cond.instanceMethod ({ cls := "BlinkMeshModel", name := "readMesh", desc := "()I" } : Jvm.MethodName)) ∈ gtbl := gw 684 (by decide +kernel) rfl
theorem k685 : (Jvm.Cond.selects "BlinkMeshModel" ({ cls := "BlinkMeshModel", name := "readMesh", desc := "()I" } : Jvm.MethodName) ({ cls := "BlinkMeshModel", name := "readMesh", desc := "()I" } : Jvm.MethodName)) ∈ gtbl := gw 685 (by decide +kernel) rfl
theorem k686 : (Jvm.Cond.code ({ cls := "BlinkMeshModel", name := "readMesh", desc := "()I" } : Jvm.MethodName) prog_6_method_45_code (2 : Nat) (Option.some Jvm.ClassFile.FieldType.int)) ∈ gtbl := gw 686 (by decide +kernel) rfl
theorem k687 : (Jvm.Cond.methodLink "BlinkMeshModel" (147 : Nat) ({ cls := "BlinkMeshModel", name := "readText", desc := "()Z" } : Jvm.MethodName)) ∈ gtbl := gw 687 (by decide +kernel) rfl
theorem k689 : (Jvm.Cond.instanceMethod ({ cls := "BlinkMeshModel", name := "readText", desc := "()Z" } : Jvm.MethodName)) ∈ gtbl := gw 689 (by decide +kernel) rfl
theorem k690 : (Jvm.Cond.code ({ cls := "BlinkMeshModel", name := "readText", desc := "()Z" } : Jvm.MethodName) prog_6_method_44_code (2 : Nat) (Option.some Jvm.ClassFile.FieldType.boolean)) ∈ gtbl := gw 690 (by decide +kernel) rfl
theorem k691 : (Jvm.Cond.methodLink "BlinkMeshModel" (140 : Nat) ({ cls := "BlinkMeshModel", name := "readLamp", desc := "()Z" } : Jvm.MethodName)) ∈ gtbl := gw 691 (by decide +kernel) rfl
theorem k693 : (Jvm.Cond.instanceMethod ({ cls := "BlinkMeshModel", name := "readLamp", desc := "()Z" } : Jvm.MethodName)) ∈ gtbl := gw 693 (by decide +kernel) rfl
theorem k694 : (Jvm.Cond.code ({ cls := "BlinkMeshModel", name := "readLamp", desc := "()Z" } : Jvm.MethodName) prog_6_method_42_code (3 : Nat) (Option.some Jvm.ClassFile.FieldType.boolean)) ∈ gtbl := gw 694 (by decide +kernel) rfl
theorem k695 : (Jvm.Cond.methodLink "BlinkMeshModel" (131 : Nat) ({ cls := "BlinkMeshModel", name := "readNumber", desc := "(II)I" } : Jvm.MethodName)) ∈ gtbl := gw 695 (by decide +kernel) rfl
theorem k697 : (Jvm.Cond.instanceMethod ({ cls := "BlinkMeshModel", name := "readNumber", desc := "(II)I" } : Jvm.MethodName)) ∈ gtbl := gw 697 (by decide +kernel) rfl
theorem k698 : (Jvm.Cond.code ({ cls := "BlinkMeshModel", name := "readNumber", desc := "(II)I" } : Jvm.MethodName) prog_6_method_41_code (5 : Nat) (Option.some Jvm.ClassFile.FieldType.int)) ∈ gtbl := gw 698 (by decide +kernel) rfl
theorem k699 : (Jvm.Cond.methodLink "BlinkMeshModel" (125 : Nat) ({ cls := "BlinkMeshModel", name := "isNext", desc := "(II)Z" } : Jvm.MethodName)) ∈ gtbl := gw 699 (by decide +kernel) rfl
theorem k701 : (Jvm.Cond.instanceMethod ({ cls := "BlinkMeshModel", name := "isNext", desc := "(II)Z" } : Jvm.MethodName)) ∈ gtbl := gw 701 (by decide +kernel) rfl
theorem k702 : (Jvm.Cond.code ({ cls := "BlinkMeshModel", name := "isNext", desc := "(II)Z" } : Jvm.MethodName) prog_6_method_38_code (3 : Nat) (Option.some Jvm.ClassFile.FieldType.boolean)) ∈ gtbl := gw 702 (by decide +kernel) rfl
theorem k703 : (Jvm.Cond.methodLink "BlinkMeshModel" (128 : Nat) ({ cls := "BlinkMeshModel", name := "begins", desc := "(III)Z" } : Jvm.MethodName)) ∈ gtbl := gw 703 (by decide +kernel) rfl
theorem k704 : (Jvm.Cond.static ({ cls := "BlinkMeshModel", name := "begins", desc := "(III)Z" } : Jvm.MethodName)) ∈ gtbl := gw 704 (by decide +kernel) rfl
theorem k705 : (Jvm.Cond.code ({ cls := "BlinkMeshModel", name := "begins", desc := "(III)Z" } : Jvm.MethodName) prog_6_method_40_code (5 : Nat) (Option.some Jvm.ClassFile.FieldType.boolean)) ∈ gtbl := gw 705 (by decide +kernel) rfl
theorem k706 : (Jvm.Cond.methodLink "BlinkMeshModel" (137 : Nat) ({ cls := "BlinkMeshModel", name := "takes", desc := "(I)Z" } : Jvm.MethodName)) ∈ gtbl := gw 706 (by decide +kernel) rfl
theorem k708 : (Jvm.Cond.instanceMethod ({ cls := "BlinkMeshModel", name := "takes", desc := "(I)Z" } : Jvm.MethodName)) ∈ gtbl := gw 708 (by decide +kernel) rfl
theorem k709 : (Jvm.Cond.code ({ cls := "BlinkMeshModel", name := "takes", desc := "(I)Z" } : Jvm.MethodName) prog_6_method_39_code (3 : Nat) (Option.some Jvm.ClassFile.FieldType.boolean)) ∈ gtbl := gw 709 (by decide +kernel) rfl
theorem k710 : (Jvm.Cond.methodLink "BlinkMeshModel" (144 : Nat) ({ cls := "BlinkMeshModel", name := "readLink", desc := "()Z" } : Jvm.MethodName)) ∈ gtbl := gw 710 (by decide +kernel) rfl
theorem k712 : (Jvm.Cond.instanceMethod ({ cls := "BlinkMeshModel", name := "readLink", desc := "()Z" } : Jvm.MethodName)) ∈ gtbl := gw 712 (by decide +kernel) rfl
theorem k713 : (Jvm.Cond.code ({ cls := "BlinkMeshModel", name := "readLink", desc := "()Z" } : Jvm.MethodName) prog_6_method_43_code (3 : Nat) (Option.some Jvm.ClassFile.FieldType.boolean)) ∈ gtbl := gw 713 (by decide +kernel) rfl
theorem k714 : (Jvm.Cond.methodLink "BlinkMeshLaw" (63 : Nat) ({ cls := "BlinkMeshModel", name := "undo", desc := "()I" } : Jvm.MethodName)) ∈ gtbl := gw 714 (by decide +kernel) rfl
theorem k715 : (Jvm.Cond.instanceMethod ({ cls := "BlinkMeshModel", name := "undo", desc := "()I" } : Jvm.MethodName)) ∈ gtbl := gw 715 (by decide +kernel) rfl
theorem k716 : (Jvm.Cond.selects "BlinkMeshModel" ({ cls := "BlinkMeshModel", name := "undo", desc := "()I" } : Jvm.MethodName) ({ cls := "BlinkMeshModel", name := "undo", desc := "()I" } : Jvm.MethodName)) ∈ gtbl := gw 716 (by decide +kernel) rfl
theorem k717 : (Jvm.Cond.code ({ cls := "BlinkMeshModel", name := "undo", desc := "()I" } : Jvm.MethodName) prog_6_method_46_code (1 : Nat) (Option.some Jvm.ClassFile.FieldType.int)) ∈ gtbl := gw 717 (by decide +kernel) rfl
theorem k718 : (Jvm.Cond.methodLink "BlinkMeshLaw" (67 : Nat) ({ cls := "BlinkMeshModel", name := "keep", desc := "()I" } : Jvm.MethodName)) ∈ gtbl := gw 718 (by decide +kernel) rfl
theorem k719 : (Jvm.Cond.instanceMethod ({ cls := "BlinkMeshModel", name := "keep", desc := "()I" } : Jvm.MethodName)) ∈ gtbl := gw 719 (by decide +kernel) rfl
theorem k720 : (Jvm.Cond.selects "BlinkMeshModel" ({ cls := "BlinkMeshModel", name := "keep", desc := "()I" } : Jvm.MethodName) ({ cls := "BlinkMeshModel", name := "keep", desc := "()I" } : Jvm.MethodName)) ∈ gtbl := gw 720 (by decide +kernel) rfl
theorem k721 : (Jvm.Cond.code ({ cls := "BlinkMeshModel", name := "keep", desc := "()I" } : Jvm.MethodName) prog_6_method_47_code (1 : Nat) (Option.some Jvm.ClassFile.FieldType.int)) ∈ gtbl := gw 721 (by decide +kernel) rfl
theorem k722 : (Jvm.Cond.methodLink "BlinkMeshLaw" (71 : Nat) ({ cls := "BlinkMeshModel", name := "restore", desc := "()I" } : Jvm.MethodName)) ∈ gtbl := gw 722 (by decide +kernel) rfl
theorem k723 : (Jvm.Cond.instanceMethod ({ cls := "BlinkMeshModel", name := "restore", desc := "()I" } : Jvm.MethodName)) ∈ gtbl := gw 723 (by decide +kernel) rfl
theorem k724 : (Jvm.Cond.selects "BlinkMeshModel" ({ cls := "BlinkMeshModel", name := "restore", desc := "()I" } : Jvm.MethodName) ({ cls := "BlinkMeshModel", name := "restore", desc := "()I" } : Jvm.MethodName)) ∈ gtbl := gw 724 (by decide +kernel) rfl
theorem k725 : (Jvm.Cond.code ({ cls := "BlinkMeshModel", name := "restore", desc := "()I" } : Jvm.MethodName) prog_6_method_48_code (1 : Nat) (Option.some Jvm.ClassFile.FieldType.int)) ∈ gtbl := gw 725 (by decide +kernel) rfl
theorem k726 : (Jvm.Cond.methodLink "BlinkMeshLaw" (75 : Nat) ({ cls := "BlinkMeshModel", name := "lamp", desc := "(II)I" } : Jvm.MethodName)) ∈ gtbl := gw 726 (by decide +kernel) rfl
theorem k727 : (Jvm.Cond.instanceMethod ({ cls := "BlinkMeshModel", name := "lamp", desc := "(II)I" } : Jvm.MethodName)) ∈ gtbl := gw 727 (by decide +kernel) rfl
theorem k728 : (Jvm.Cond.selects "BlinkMeshModel" ({ cls := "BlinkMeshModel", name := "lamp", desc := "(II)I" } : Jvm.MethodName) ({ cls := "BlinkMeshModel", name := "lamp", desc := "(II)I" } : Jvm.MethodName)) ∈ gtbl := gw 728 (by decide +kernel) rfl
theorem k729 : (Jvm.Cond.code ({ cls := "BlinkMeshModel", name := "lamp", desc := "(II)I" } : Jvm.MethodName) prog_6_method_49_code (3 : Nat) (Option.some Jvm.ClassFile.FieldType.int)) ∈ gtbl := gw 729 (by decide +kernel) rfl
theorem k730 : (Jvm.Cond.methodLink "BlinkMeshModel" (89 : Nat) ({ cls := "BlinkMeshModel", name := "pieceOf", desc := "(I)I" } : Jvm.MethodName)) ∈ gtbl := gw 730 (by decide +kernel) rfl
theorem k732 : (Jvm.Cond.instanceMethod ({ cls := "BlinkMeshModel", name := "pieceOf", desc := "(I)I" } : Jvm.MethodName)) ∈ gtbl := gw 732 (by decide +kernel) rfl
theorem k733 : (Jvm.Cond.code ({ cls := "BlinkMeshModel", name := "pieceOf", desc := "(I)I" } : Jvm.MethodName) prog_6_method_21_code (6 : Nat) (Option.some Jvm.ClassFile.FieldType.int)) ∈ gtbl := gw 733 (by decide +kernel) rfl
theorem k734 : (Jvm.Cond.methodLink "BlinkMeshModel" (154 : Nat) ({ cls := "BlinkMeshModel", name := "agreeing", desc := "(I)I" } : Jvm.MethodName)) ∈ gtbl := gw 734 (by decide +kernel) rfl
theorem k736 : (Jvm.Cond.instanceMethod ({ cls := "BlinkMeshModel", name := "agreeing", desc := "(I)I" } : Jvm.MethodName)) ∈ gtbl := gw 736 (by decide +kernel) rfl
theorem k737 : (Jvm.Cond.code ({ cls := "BlinkMeshModel", name := "agreeing", desc := "(I)I" } : Jvm.MethodName) prog_6_method_23_code (4 : Nat) (Option.some Jvm.ClassFile.FieldType.int)) ∈ gtbl := gw 737 (by decide +kernel) rfl
theorem k738 : (Jvm.Cond.methodLink "BlinkMeshLaw" (79 : Nat) ({ cls := "BlinkMeshModel", name := "apart", desc := "(II)I" } : Jvm.MethodName)) ∈ gtbl := gw 738 (by decide +kernel) rfl
theorem k739 : (Jvm.Cond.instanceMethod ({ cls := "BlinkMeshModel", name := "apart", desc := "(II)I" } : Jvm.MethodName)) ∈ gtbl := gw 739 (by decide +kernel) rfl
theorem k740 : (Jvm.Cond.selects "BlinkMeshModel" ({ cls := "BlinkMeshModel", name := "apart", desc := "(II)I" } : Jvm.MethodName) ({ cls := "BlinkMeshModel", name := "apart", desc := "(II)I" } : Jvm.MethodName)) ∈ gtbl := gw 740 (by decide +kernel) rfl
theorem k741 : (Jvm.Cond.code ({ cls := "BlinkMeshModel", name := "apart", desc := "(II)I" } : Jvm.MethodName) prog_6_method_50_code (3 : Nat) (Option.some Jvm.ClassFile.FieldType.int)) ∈ gtbl := gw 741 (by decide +kernel) rfl
theorem k742 : (Jvm.Cond.methodLink "BlinkMeshModel" (92 : Nat) ({ cls := "BlinkMeshModel", name := "distance", desc := "(II)I" } : Jvm.MethodName)) ∈ gtbl := gw 742 (by decide +kernel) rfl
theorem k744 : (Jvm.Cond.instanceMethod ({ cls := "BlinkMeshModel", name := "distance", desc := "(II)I" } : Jvm.MethodName)) ∈ gtbl := gw 744 (by decide +kernel) rfl
theorem k745 : (Jvm.Cond.code ({ cls := "BlinkMeshModel", name := "distance", desc := "(II)I" } : Jvm.MethodName) prog_6_method_24_code (4 : Nat) (Option.some Jvm.ClassFile.FieldType.int)) ∈ gtbl := gw 745 (by decide +kernel) rfl
theorem k746 : (Jvm.Cond.methodLink "BlinkMeshLaw" (83 : Nat) ({ cls := "BlinkMeshModel", name := "next", desc := "(I)I" } : Jvm.MethodName)) ∈ gtbl := gw 746 (by decide +kernel) rfl
theorem k747 : (Jvm.Cond.instanceMethod ({ cls := "BlinkMeshModel", name := "next", desc := "(I)I" } : Jvm.MethodName)) ∈ gtbl := gw 747 (by decide +kernel) rfl
theorem k748 : (Jvm.Cond.selects "BlinkMeshModel" ({ cls := "BlinkMeshModel", name := "next", desc := "(I)I" } : Jvm.MethodName) ({ cls := "BlinkMeshModel", name := "next", desc := "(I)I" } : Jvm.MethodName)) ∈ gtbl := gw 748 (by decide +kernel) rfl
theorem k749 : (Jvm.Cond.code ({ cls := "BlinkMeshModel", name := "next", desc := "(I)I" } : Jvm.MethodName) prog_6_method_51_code (4 : Nat) (Option.some Jvm.ClassFile.FieldType.int)) ∈ gtbl := gw 749 (by decide +kernel) rfl
theorem k750 : (Jvm.Cond.methodLink "BlinkMeshLaw" (87 : Nat) ({ cls := "BlinkMeshModel", name := "togetherIn", desc := "()I" } : Jvm.MethodName)) ∈ gtbl := gw 750 (by decide +kernel) rfl
theorem k751 : (Jvm.Cond.instanceMethod ({ cls := "BlinkMeshModel", name := "togetherIn", desc := "()I" } : Jvm.MethodName)) ∈ gtbl := gw 751 (by decide +kernel) rfl
theorem k752 : (Jvm.Cond.selects "BlinkMeshModel" ({ cls := "BlinkMeshModel", name := "togetherIn", desc := "()I" } : Jvm.MethodName) ({ cls := "BlinkMeshModel", name := "togetherIn", desc := "()I" } : Jvm.MethodName)) ∈ gtbl := gw 752 (by decide +kernel) rfl
theorem k753 : (Jvm.Cond.code ({ cls := "BlinkMeshModel", name := "togetherIn", desc := "()I" } : Jvm.MethodName) prog_6_method_53_code (2 : Nat) (Option.some Jvm.ClassFile.FieldType.int)) ∈ gtbl := gw 753 (by decide +kernel) rfl
theorem k754 : (Jvm.Cond.methodLink "BlinkMeshModel" (160 : Nat) ({ cls := "BlinkMeshModel", name := "untilTogether", desc := "()I" } : Jvm.MethodName)) ∈ gtbl := gw 754 (by decide +kernel) rfl
theorem k756 : (Jvm.Cond.instanceMethod ({ cls := "BlinkMeshModel", name := "untilTogether", desc := "()I" } : Jvm.MethodName)) ∈ gtbl := gw 756 (by decide +kernel) rfl
theorem k757 : (Jvm.Cond.code ({ cls := "BlinkMeshModel", name := "untilTogether", desc := "()I" } : Jvm.MethodName) prog_6_method_52_code (2 : Nat) (Option.some Jvm.ClassFile.FieldType.int)) ∈ gtbl := gw 757 (by decide +kernel) rfl
theorem k758 : (Jvm.Cond.methodLink "BlinkMeshModel" (157 : Nat) ({ cls := "BlinkMeshModel", name := "isTogether", desc := "()Z" } : Jvm.MethodName)) ∈ gtbl := gw 758 (by decide +kernel) rfl
theorem k760 : (Jvm.Cond.instanceMethod ({ cls := "BlinkMeshModel", name := "isTogether", desc := "()Z" } : Jvm.MethodName)) ∈ gtbl := gw 760 (by decide +kernel) rfl
theorem k761 : (Jvm.Cond.code ({ cls := "BlinkMeshModel", name := "isTogether", desc := "()Z" } : Jvm.MethodName) prog_6_method_26_code (1 : Nat) (Option.some Jvm.ClassFile.FieldType.boolean)) ∈ gtbl := gw 761 (by decide +kernel) rfl
theorem k762 : (Jvm.Cond.methodLink "BlinkMeshModel" (95 : Nat) ({ cls := "BlinkMeshModel", name := "greatestDistance", desc := "()I" } : Jvm.MethodName)) ∈ gtbl := gw 762 (by decide +kernel) rfl
theorem k764 : (Jvm.Cond.instanceMethod ({ cls := "BlinkMeshModel", name := "greatestDistance", desc := "()I" } : Jvm.MethodName)) ∈ gtbl := gw 764 (by decide +kernel) rfl
theorem k765 : (Jvm.Cond.code ({ cls := "BlinkMeshModel", name := "greatestDistance", desc := "()I" } : Jvm.MethodName) prog_6_method_25_code (4 : Nat) (Option.some Jvm.ClassFile.FieldType.int)) ∈ gtbl := gw 765 (by decide +kernel) rfl
theorem k766 : (Jvm.Cond.methodLink "BlinkMeshLaw" (91 : Nat) ({ cls := "BlinkMeshModel", name := "reason", desc := "()I" } : Jvm.MethodName)) ∈ gtbl := gw 766 (by decide +kernel) rfl
theorem k767 : (Jvm.Cond.instanceMethod ({ cls := "BlinkMeshModel", name := "reason", desc := "()I" } : Jvm.MethodName)) ∈ gtbl := gw 767 (by decide +kernel) rfl
theorem k768 : (Jvm.Cond.selects "BlinkMeshModel" ({ cls := "BlinkMeshModel", name := "reason", desc := "()I" } : Jvm.MethodName) ({ cls := "BlinkMeshModel", name := "reason", desc := "()I" } : Jvm.MethodName)) ∈ gtbl := gw 768 (by decide +kernel) rfl
theorem k769 : (Jvm.Cond.code ({ cls := "BlinkMeshModel", name := "reason", desc := "()I" } : Jvm.MethodName) prog_6_method_55_code (1 : Nat) (Option.some Jvm.ClassFile.FieldType.int)) ∈ gtbl := gw 769 (by decide +kernel) rfl
theorem k770 : (Jvm.Cond.methodLink "BlinkMeshModel" (163 : Nat) ({ cls := "BlinkMeshModel", name := "pieces", desc := "()I" } : Jvm.MethodName)) ∈ gtbl := gw 770 (by decide +kernel) rfl
theorem k772 : (Jvm.Cond.instanceMethod ({ cls := "BlinkMeshModel", name := "pieces", desc := "()I" } : Jvm.MethodName)) ∈ gtbl := gw 772 (by decide +kernel) rfl
theorem k773 : (Jvm.Cond.code ({ cls := "BlinkMeshModel", name := "pieces", desc := "()I" } : Jvm.MethodName) prog_6_method_22_code (4 : Nat) (Option.some Jvm.ClassFile.FieldType.int)) ∈ gtbl := gw 773 (by decide +kernel) rfl
theorem k774 : (Jvm.Cond.methodLink "BlinkMeshModel" (166 : Nat) ({ cls := "BlinkMeshModel", name := "areRatesUnlike", desc := "()Z" } : Jvm.MethodName)) ∈ gtbl := gw 774 (by decide +kernel) rfl
theorem k776 : (Jvm.Cond.instanceMethod ({ cls := "BlinkMeshModel", name := "areRatesUnlike", desc := "()Z" } : Jvm.MethodName)) ∈ gtbl := gw 776 (by decide +kernel) rfl
theorem k777 : (Jvm.Cond.code ({ cls := "BlinkMeshModel", name := "areRatesUnlike", desc := "()Z" } : Jvm.MethodName) prog_6_method_54_code (4 : Nat) (Option.some Jvm.ClassFile.FieldType.boolean)) ∈ gtbl := gw 777 (by decide +kernel) rfl
theorem k778 : (Jvm.Cond.methodLink "BlinkMeshLaw" (95 : Nat) ({ cls := "BlinkMeshModel", name := "spread", desc := "()I" } : Jvm.MethodName)) ∈ gtbl := gw 778 (by decide +kernel) rfl
theorem k779 : (Jvm.Cond.instanceMethod ({ cls := "BlinkMeshModel", name := "spread", desc := "()I" } : Jvm.MethodName)) ∈ gtbl := gw 779 (by decide +kernel) rfl
theorem k780 : (Jvm.Cond.selects "BlinkMeshModel" ({ cls := "BlinkMeshModel", name := "spread", desc := "()I" } : Jvm.MethodName) ({ cls := "BlinkMeshModel", name := "spread", desc := "()I" } : Jvm.MethodName)) ∈ gtbl := gw 780 (by decide +kernel) rfl
theorem k781 : (Jvm.Cond.code ({ cls := "BlinkMeshModel", name := "spread", desc := "()I" } : Jvm.MethodName) prog_6_method_56_code (1 : Nat) (Option.some Jvm.ClassFile.FieldType.int)) ∈ gtbl := gw 781 (by decide +kernel) rfl
theorem k782 : (Jvm.Cond.methodLink "BlinkMeshLaw" (99 : Nat) ({ cls := "BlinkMeshModel", name := "ifLinked", desc := "(II)I" } : Jvm.MethodName)) ∈ gtbl := gw 782 (by decide +kernel) rfl
theorem k783 : (Jvm.Cond.instanceMethod ({ cls := "BlinkMeshModel", name := "ifLinked", desc := "(II)I" } : Jvm.MethodName)) ∈ gtbl := gw 783 (by decide +kernel) rfl
theorem k784 : (Jvm.Cond.selects "BlinkMeshModel" ({ cls := "BlinkMeshModel", name := "ifLinked", desc := "(II)I" } : Jvm.MethodName) ({ cls := "BlinkMeshModel", name := "ifLinked", desc := "(II)I" } : Jvm.MethodName)) ∈ gtbl := gw 784 (by decide +kernel) rfl
theorem k785 : (Jvm.Cond.code ({ cls := "BlinkMeshModel", name := "ifLinked", desc := "(II)I" } : Jvm.MethodName) prog_6_method_57_code (4 : Nat) (Option.some Jvm.ClassFile.FieldType.int)) ∈ gtbl := gw 785 (by decide +kernel) rfl
theorem k786 : (Jvm.Cond.methodLink "BlinkMeshLaw" (103 : Nat) ({ cls := "BlinkMeshModel", name := "hub", desc := "()I" } : Jvm.MethodName)) ∈ gtbl := gw 786 (by decide +kernel) rfl
theorem k787 : (Jvm.Cond.instanceMethod ({ cls := "BlinkMeshModel", name := "hub", desc := "()I" } : Jvm.MethodName)) ∈ gtbl := gw 787 (by decide +kernel) rfl
theorem k788 : (Jvm.Cond.selects "BlinkMeshModel" ({ cls := "BlinkMeshModel", name := "hub", desc := "()I" } : Jvm.MethodName) ({ cls := "BlinkMeshModel", name := "hub", desc := "()I" } : Jvm.MethodName)) ∈ gtbl := gw 788 (by decide +kernel) rfl
theorem k789 : (Jvm.Cond.code ({ cls := "BlinkMeshModel", name := "hub", desc := "()I" } : Jvm.MethodName) prog_6_method_58_code (4 : Nat) (Option.some Jvm.ClassFile.FieldType.int)) ∈ gtbl := gw 789 (by decide +kernel) rfl
theorem k790 : (Jvm.Cond.methodLink "BlinkMeshLaw" (107 : Nat) ({ cls := "BlinkMeshModel", name := "bestLink", desc := "(I)I" } : Jvm.MethodName)) ∈ gtbl := gw 790 (by decide +kernel) rfl
theorem k791 : (Jvm.Cond.instanceMethod ({ cls := "BlinkMeshModel", name := "bestLink", desc := "(I)I" } : Jvm.MethodName)) ∈ gtbl := gw 791 (by decide +kernel) rfl
theorem k792 : (Jvm.Cond.selects "BlinkMeshModel" ({ cls := "BlinkMeshModel", name := "bestLink", desc := "(I)I" } : Jvm.MethodName) ({ cls := "BlinkMeshModel", name := "bestLink", desc := "(I)I" } : Jvm.MethodName)) ∈ gtbl := gw 792 (by decide +kernel) rfl
theorem k793 : (Jvm.Cond.code ({ cls := "BlinkMeshModel", name := "bestLink", desc := "(I)I" } : Jvm.MethodName) prog_6_method_59_code (9 : Nat) (Option.some Jvm.ClassFile.FieldType.int)) ∈ gtbl := gw 793 (by decide +kernel) rfl
theorem k794 : (Jvm.Cond.methodLink "BlinkMeshLaw" (111 : Nat) ({ cls := "BlinkMeshModel", name := "count", desc := "(I)I" } : Jvm.MethodName)) ∈ gtbl := gw 794 (by decide +kernel) rfl
theorem k795 : (Jvm.Cond.instanceMethod ({ cls := "BlinkMeshModel", name := "count", desc := "(I)I" } : Jvm.MethodName)) ∈ gtbl := gw 795 (by decide +kernel) rfl
theorem k796 : (Jvm.Cond.selects "BlinkMeshModel" ({ cls := "BlinkMeshModel", name := "count", desc := "(I)I" } : Jvm.MethodName) ({ cls := "BlinkMeshModel", name := "count", desc := "(I)I" } : Jvm.MethodName)) ∈ gtbl := gw 796 (by decide +kernel) rfl
theorem k797 : (Jvm.Cond.code ({ cls := "BlinkMeshModel", name := "count", desc := "(I)I" } : Jvm.MethodName) prog_6_method_60_code (2 : Nat) (Option.some Jvm.ClassFile.FieldType.int)) ∈ gtbl := gw 797 (by decide +kernel) rfl
theorem kp0 : Cond.selects "BlinkMesh$History" ⟨"BlinkMesh$History", "dropOldest", "()V"⟩ ⟨"BlinkMesh$History", "dropOldest", "()V"⟩ ∈ gtbl := gwp 0 (by decide +kernel) rfl
theorem kp1 : Cond.selects "BlinkMesh$Mesh" ⟨"BlinkMesh$Mesh", "fullPhase", "()I"⟩ ⟨"BlinkMesh$Mesh", "fullPhase", "()I"⟩ ∈ gtbl := gwp 1 (by decide +kernel) rfl
theorem kp2 : Cond.selects "BlinkMesh$Mesh" ⟨"BlinkMesh$Mesh", "grow", "()I"⟩ ⟨"BlinkMesh$Mesh", "grow", "()I"⟩ ∈ gtbl := gwp 2 (by decide +kernel) rfl
theorem kp3 : Cond.selects "BlinkMesh$Mesh" ⟨"BlinkMesh$Mesh", "blink", "(I)V"⟩ ⟨"BlinkMesh$Mesh", "blink", "(I)V"⟩ ∈ gtbl := gwp 3 (by decide +kernel) rfl
theorem kp4 : Cond.selects "BlinkMesh$Mesh" ⟨"BlinkMesh$Mesh", "pushFrom", "(II)I"⟩ ⟨"BlinkMesh$Mesh", "pushFrom", "(II)I"⟩ ∈ gtbl := gwp 4 (by decide +kernel) rfl
theorem kp5 : Cond.selects "BlinkMesh$Mesh" ⟨"BlinkMesh$Mesh", "pushAll", "(I)I"⟩ ⟨"BlinkMesh$Mesh", "pushAll", "(I)I"⟩ ∈ gtbl := gwp 5 (by decide +kernel) rfl
theorem kp6 : Cond.selects "BlinkMesh$Mesh" ⟨"BlinkMesh$Mesh", "account", "(I)V"⟩ ⟨"BlinkMesh$Mesh", "account", "(I)V"⟩ ∈ gtbl := gwp 6 (by decide +kernel) rfl
theorem kp7 : Cond.selects "BlinkMesh$MeshText" ⟨"BlinkMesh$MeshText", "parseLamps", "()Z"⟩ ⟨"BlinkMesh$MeshText", "parseLamps", "()Z"⟩ ∈ gtbl := gwp 7 (by decide +kernel) rfl
theorem kp8 : Cond.selects "BlinkMesh$MeshText" ⟨"BlinkMesh$MeshText", "parseLamp", "(I)Z"⟩ ⟨"BlinkMesh$MeshText", "parseLamp", "(I)Z"⟩ ∈ gtbl := gwp 8 (by decide +kernel) rfl
theorem kp9 : Cond.selects "BlinkMesh$MeshText" ⟨"BlinkMesh$MeshText", "parseNumber", "(II)I"⟩ ⟨"BlinkMesh$MeshText", "parseNumber", "(II)I"⟩ ∈ gtbl := gwp 9 (by decide +kernel) rfl
theorem kp10 : Cond.selects "BlinkMesh$MeshText" ⟨"BlinkMesh$MeshText", "current", "()I"⟩ ⟨"BlinkMesh$MeshText", "current", "()I"⟩ ∈ gtbl := gwp 10 (by decide +kernel) rfl
theorem kp11 : Cond.selects "BlinkMesh$MeshText" ⟨"BlinkMesh$MeshText", "skip", "(C)Z"⟩ ⟨"BlinkMesh$MeshText", "skip", "(C)Z"⟩ ∈ gtbl := gwp 11 (by decide +kernel) rfl
theorem kp12 : Cond.selects "BlinkMesh$MeshText" ⟨"BlinkMesh$MeshText", "parseLinks", "()Z"⟩ ⟨"BlinkMesh$MeshText", "parseLinks", "()Z"⟩ ∈ gtbl := gwp 12 (by decide +kernel) rfl
theorem kp13 : Cond.selects "BlinkMesh$MeshText" ⟨"BlinkMesh$MeshText", "parseLink", "()Z"⟩ ⟨"BlinkMesh$MeshText", "parseLink", "()Z"⟩ ∈ gtbl := gwp 13 (by decide +kernel) rfl
theorem kp14 : Cond.selects "BlinkMesh$MeshText" ⟨"BlinkMesh$MeshText", "parseLetter", "(I)I"⟩ ⟨"BlinkMesh$MeshText", "parseLetter", "(I)I"⟩ ∈ gtbl := gwp 14 (by decide +kernel) rfl
theorem kp15 : Cond.selects "BlinkMesh$Mesh" ⟨"BlinkMesh$Mesh", "pieceOf", "(I)I"⟩ ⟨"BlinkMesh$Mesh", "pieceOf", "(I)I"⟩ ∈ gtbl := gwp 15 (by decide +kernel) rfl
theorem kp16 : Cond.selects "BlinkMesh$Mesh" ⟨"BlinkMesh$Mesh", "neighbours", "(I)I"⟩ ⟨"BlinkMesh$Mesh", "neighbours", "(I)I"⟩ ∈ gtbl := gwp 16 (by decide +kernel) rfl
theorem kp17 : Cond.selects "BlinkMesh$Mesh" ⟨"BlinkMesh$Mesh", "agreeing", "(I)I"⟩ ⟨"BlinkMesh$Mesh", "agreeing", "(I)I"⟩ ∈ gtbl := gwp 17 (by decide +kernel) rfl
theorem kp18 : Cond.selects "BlinkMesh" ⟨"BlinkMesh", "trialTogetherIn", "()I"⟩ ⟨"BlinkMesh", "trialTogetherIn", "()I"⟩ ∈ gtbl := gwp 18 (by decide +kernel) rfl
theorem kp19 : Cond.selects "BlinkMesh" ⟨"BlinkMesh", "spreadWith", "(II)I"⟩ ⟨"BlinkMesh", "spreadWith", "(II)I"⟩ ∈ gtbl := gwp 19 (by decide +kernel) rfl
theorem kp20 : Cond.selects "BlinkMeshModel" ⟨"BlinkMeshModel", "of", "(II)I"⟩ ⟨"BlinkMeshModel", "of", "(II)I"⟩ ∈ gtbl := gwp 20 (by decide +kernel) rfl
theorem kp21 : Cond.selects "BlinkMeshModel" ⟨"BlinkMeshModel", "record", "()V"⟩ ⟨"BlinkMeshModel", "record", "()V"⟩ ∈ gtbl := gwp 21 (by decide +kernel) rfl
theorem kp22 : Cond.selects "BlinkMeshModel" ⟨"BlinkMeshModel", "lay", "(III)V"⟩ ⟨"BlinkMeshModel", "lay", "(III)V"⟩ ∈ gtbl := gwp 22 (by decide +kernel) rfl
theorem kp23 : Cond.selects "BlinkMeshModel" ⟨"BlinkMeshModel", "put", "(III)V"⟩ ⟨"BlinkMeshModel", "put", "(III)V"⟩ ∈ gtbl := gwp 23 (by decide +kernel) rfl
theorem kp24 : Cond.selects "BlinkMeshModel" ⟨"BlinkMeshModel", "round", "()I"⟩ ⟨"BlinkMeshModel", "round", "()I"⟩ ∈ gtbl := gwp 24 (by decide +kernel) rfl
theorem kp25 : Cond.selects "BlinkMeshModel" ⟨"BlinkMeshModel", "isLamp", "(I)Z"⟩ ⟨"BlinkMeshModel", "isLamp", "(I)Z"⟩ ∈ gtbl := gwp 25 (by decide +kernel) rfl
theorem kp26 : Cond.selects "BlinkMeshModel" ⟨"BlinkMeshModel", "isOn", "(I)Z"⟩ ⟨"BlinkMeshModel", "isOn", "(I)Z"⟩ ∈ gtbl := gwp 26 (by decide +kernel) rfl
theorem kp27 : Cond.selects "BlinkMeshModel" ⟨"BlinkMeshModel", "lampsOn", "()I"⟩ ⟨"BlinkMeshModel", "lampsOn", "()I"⟩ ∈ gtbl := gwp 27 (by decide +kernel) rfl
theorem kp28 : Cond.selects "BlinkMeshModel" ⟨"BlinkMeshModel", "setOf", "(I)I"⟩ ⟨"BlinkMeshModel", "setOf", "(I)I"⟩ ∈ gtbl := gwp 28 (by decide +kernel) rfl
theorem kp29 : Cond.selects "BlinkMeshModel" ⟨"BlinkMeshModel", "connect", "(IIZ)V"⟩ ⟨"BlinkMeshModel", "connect", "(IIZ)V"⟩ ∈ gtbl := gwp 29 (by decide +kernel) rfl
theorem kp30 : Cond.selects "BlinkMeshModel" ⟨"BlinkMeshModel", "links", "()I"⟩ ⟨"BlinkMeshModel", "links", "()I"⟩ ∈ gtbl := gwp 30 (by decide +kernel) rfl
theorem kp31 : Cond.selects "BlinkMeshModel" ⟨"BlinkMeshModel", "goOn", "(I)V"⟩ ⟨"BlinkMeshModel", "goOn", "(I)V"⟩ ∈ gtbl := gwp 31 (by decide +kernel) rfl
theorem kp32 : Cond.selects "BlinkMeshModel" ⟨"BlinkMeshModel", "tick", "()I"⟩ ⟨"BlinkMeshModel", "tick", "()I"⟩ ∈ gtbl := gwp 32 (by decide +kernel) rfl
theorem kp33 : Cond.selects "BlinkMeshModel" ⟨"BlinkMeshModel", "grow", "()V"⟩ ⟨"BlinkMeshModel", "grow", "()V"⟩ ∈ gtbl := gwp 33 (by decide +kernel) rfl
theorem kp34 : Cond.selects "BlinkMeshModel" ⟨"BlinkMeshModel", "blink", "(I)I"⟩ ⟨"BlinkMeshModel", "blink", "(I)I"⟩ ∈ gtbl := gwp 34 (by decide +kernel) rfl
theorem kp35 : Cond.selects "BlinkMeshModel" ⟨"BlinkMeshModel", "push", "(II)I"⟩ ⟨"BlinkMeshModel", "push", "(II)I"⟩ ∈ gtbl := gwp 35 (by decide +kernel) rfl
theorem kp36 : Cond.selects "BlinkMeshModel" ⟨"BlinkMeshModel", "readText", "()Z"⟩ ⟨"BlinkMeshModel", "readText", "()Z"⟩ ∈ gtbl := gwp 36 (by decide +kernel) rfl
theorem kp37 : Cond.selects "BlinkMeshModel" ⟨"BlinkMeshModel", "readLamp", "()Z"⟩ ⟨"BlinkMeshModel", "readLamp", "()Z"⟩ ∈ gtbl := gwp 37 (by decide +kernel) rfl
theorem kp38 : Cond.selects "BlinkMeshModel" ⟨"BlinkMeshModel", "readNumber", "(II)I"⟩ ⟨"BlinkMeshModel", "readNumber", "(II)I"⟩ ∈ gtbl := gwp 38 (by decide +kernel) rfl
theorem kp39 : Cond.selects "BlinkMeshModel" ⟨"BlinkMeshModel", "isNext", "(II)Z"⟩ ⟨"BlinkMeshModel", "isNext", "(II)Z"⟩ ∈ gtbl := gwp 39 (by decide +kernel) rfl
theorem kp40 : Cond.selects "BlinkMeshModel" ⟨"BlinkMeshModel", "takes", "(I)Z"⟩ ⟨"BlinkMeshModel", "takes", "(I)Z"⟩ ∈ gtbl := gwp 40 (by decide +kernel) rfl
theorem kp41 : Cond.selects "BlinkMeshModel" ⟨"BlinkMeshModel", "readLink", "()Z"⟩ ⟨"BlinkMeshModel", "readLink", "()Z"⟩ ∈ gtbl := gwp 41 (by decide +kernel) rfl
theorem kp42 : Cond.selects "BlinkMeshModel" ⟨"BlinkMeshModel", "pieceOf", "(I)I"⟩ ⟨"BlinkMeshModel", "pieceOf", "(I)I"⟩ ∈ gtbl := gwp 42 (by decide +kernel) rfl
theorem kp43 : Cond.selects "BlinkMeshModel" ⟨"BlinkMeshModel", "agreeing", "(I)I"⟩ ⟨"BlinkMeshModel", "agreeing", "(I)I"⟩ ∈ gtbl := gwp 43 (by decide +kernel) rfl
theorem kp44 : Cond.selects "BlinkMeshModel" ⟨"BlinkMeshModel", "distance", "(II)I"⟩ ⟨"BlinkMeshModel", "distance", "(II)I"⟩ ∈ gtbl := gwp 44 (by decide +kernel) rfl
theorem kp45 : Cond.selects "BlinkMeshModel" ⟨"BlinkMeshModel", "untilTogether", "()I"⟩ ⟨"BlinkMeshModel", "untilTogether", "()I"⟩ ∈ gtbl := gwp 45 (by decide +kernel) rfl
theorem kp46 : Cond.selects "BlinkMeshModel" ⟨"BlinkMeshModel", "isTogether", "()Z"⟩ ⟨"BlinkMeshModel", "isTogether", "()Z"⟩ ∈ gtbl := gwp 46 (by decide +kernel) rfl
theorem kp47 : Cond.selects "BlinkMeshModel" ⟨"BlinkMeshModel", "greatestDistance", "()I"⟩ ⟨"BlinkMeshModel", "greatestDistance", "()I"⟩ ∈ gtbl := gwp 47 (by decide +kernel) rfl
theorem kp48 : Cond.selects "BlinkMeshModel" ⟨"BlinkMeshModel", "pieces", "()I"⟩ ⟨"BlinkMeshModel", "pieces", "()I"⟩ ∈ gtbl := gwp 48 (by decide +kernel) rfl
theorem kp49 : Cond.selects "BlinkMeshModel" ⟨"BlinkMeshModel", "areRatesUnlike", "()Z"⟩ ⟨"BlinkMeshModel", "areRatesUnlike", "()Z"⟩ ∈ gtbl := gwp 49 (by decide +kernel) rfl
