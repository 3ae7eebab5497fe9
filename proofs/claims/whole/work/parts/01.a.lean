-- ===== PART A: goes FIRST, ahead of the names: the tables' words, and 'selects' of the private methods out of them =====
/-- a private method of a class that the tables say can be made, by its rows of tables_1 -/
def lw_okq (q : MethodName × Nat) : Prop := (q.1.cls ≠ "java/lang/invoke/MethodHandle" ∧ q.1.cls ≠ "java/lang/invoke/VarHandle") ∧ Cond.instantiable q.1.cls q.2 ∈ tables_1 ∧ Cond.privateMethod q.1 ∈ tables_1 ∧ Cond.instanceMethod q.1 ∈ tables_1
theorem lw_p0 : lw_okq (⟨"BlinkMesh$History", "dropOldest", "()V"⟩, 2) := ⟨⟨by decide +kernel, by decide +kernel⟩, List.mem_of_getElem? (i := 80) (by decide +kernel), List.mem_of_getElem? (i := 166) (by decide +kernel), List.mem_of_getElem? (i := 167) (by decide +kernel)⟩
theorem lw_p1 : lw_okq (⟨"BlinkMesh$Mesh", "fullPhase", "()I"⟩, 15) := ⟨⟨by decide +kernel, by decide +kernel⟩, List.mem_of_getElem? (i := 18) (by decide +kernel), List.mem_of_getElem? (i := 259) (by decide +kernel), List.mem_of_getElem? (i := 260) (by decide +kernel)⟩
theorem lw_p2 : lw_okq (⟨"BlinkMesh$Mesh", "grow", "()I"⟩, 15) := ⟨⟨by decide +kernel, by decide +kernel⟩, List.mem_of_getElem? (i := 18) (by decide +kernel), List.mem_of_getElem? (i := 287) (by decide +kernel), List.mem_of_getElem? (i := 288) (by decide +kernel)⟩
theorem lw_p3 : lw_okq (⟨"BlinkMesh$Mesh", "blink", "(I)V"⟩, 15) := ⟨⟨by decide +kernel, by decide +kernel⟩, List.mem_of_getElem? (i := 18) (by decide +kernel), List.mem_of_getElem? (i := 291) (by decide +kernel), List.mem_of_getElem? (i := 292) (by decide +kernel)⟩
theorem lw_p4 : lw_okq (⟨"BlinkMesh$Mesh", "pushFrom", "(II)I"⟩, 15) := ⟨⟨by decide +kernel, by decide +kernel⟩, List.mem_of_getElem? (i := 18) (by decide +kernel), List.mem_of_getElem? (i := 295) (by decide +kernel), List.mem_of_getElem? (i := 296) (by decide +kernel)⟩
theorem lw_p5 : lw_okq (⟨"BlinkMesh$Mesh", "pushAll", "(I)I"⟩, 15) := ⟨⟨by decide +kernel, by decide +kernel⟩, List.mem_of_getElem? (i := 18) (by decide +kernel), List.mem_of_getElem? (i := 299) (by decide +kernel), List.mem_of_getElem? (i := 300) (by decide +kernel)⟩
theorem lw_p6 : lw_okq (⟨"BlinkMesh$Mesh", "account", "(I)V"⟩, 15) := ⟨⟨by decide +kernel, by decide +kernel⟩, List.mem_of_getElem? (i := 18) (by decide +kernel), List.mem_of_getElem? (i := 303) (by decide +kernel), List.mem_of_getElem? (i := 304) (by decide +kernel)⟩
theorem lw_p7 : lw_okq (⟨"BlinkMesh$MeshText", "parseLamps", "()Z"⟩, 7) := ⟨⟨by decide +kernel, by decide +kernel⟩, List.mem_of_getElem? (i := 96) (by decide +kernel), List.mem_of_getElem? (i := 342) (by decide +kernel), List.mem_of_getElem? (i := 343) (by decide +kernel)⟩
theorem lw_p8 : lw_okq (⟨"BlinkMesh$MeshText", "parseLamp", "(I)Z"⟩, 7) := ⟨⟨by decide +kernel, by decide +kernel⟩, List.mem_of_getElem? (i := 96) (by decide +kernel), List.mem_of_getElem? (i := 346) (by decide +kernel), List.mem_of_getElem? (i := 347) (by decide +kernel)⟩
theorem lw_p9 : lw_okq (⟨"BlinkMesh$MeshText", "parseNumber", "(II)I"⟩, 7) := ⟨⟨by decide +kernel, by decide +kernel⟩, List.mem_of_getElem? (i := 96) (by decide +kernel), List.mem_of_getElem? (i := 350) (by decide +kernel), List.mem_of_getElem? (i := 351) (by decide +kernel)⟩
theorem lw_p10 : lw_okq (⟨"BlinkMesh$MeshText", "current", "()I"⟩, 7) := ⟨⟨by decide +kernel, by decide +kernel⟩, List.mem_of_getElem? (i := 96) (by decide +kernel), List.mem_of_getElem? (i := 354) (by decide +kernel), List.mem_of_getElem? (i := 355) (by decide +kernel)⟩
theorem lw_p11 : lw_okq (⟨"BlinkMesh$MeshText", "skip", "(C)Z"⟩, 7) := ⟨⟨by decide +kernel, by decide +kernel⟩, List.mem_of_getElem? (i := 96) (by decide +kernel), List.mem_of_getElem? (i := 361) (by decide +kernel), List.mem_of_getElem? (i := 362) (by decide +kernel)⟩
theorem lw_p12 : lw_okq (⟨"BlinkMesh$MeshText", "parseLinks", "()Z"⟩, 7) := ⟨⟨by decide +kernel, by decide +kernel⟩, List.mem_of_getElem? (i := 96) (by decide +kernel), List.mem_of_getElem? (i := 365) (by decide +kernel), List.mem_of_getElem? (i := 366) (by decide +kernel)⟩
theorem lw_p13 : lw_okq (⟨"BlinkMesh$MeshText", "parseLink", "()Z"⟩, 7) := ⟨⟨by decide +kernel, by decide +kernel⟩, List.mem_of_getElem? (i := 96) (by decide +kernel), List.mem_of_getElem? (i := 369) (by decide +kernel), List.mem_of_getElem? (i := 370) (by decide +kernel)⟩
theorem lw_p14 : lw_okq (⟨"BlinkMesh$MeshText", "parseLetter", "(I)I"⟩, 7) := ⟨⟨by decide +kernel, by decide +kernel⟩, List.mem_of_getElem? (i := 96) (by decide +kernel), List.mem_of_getElem? (i := 373) (by decide +kernel), List.mem_of_getElem? (i := 374) (by decide +kernel)⟩
theorem lw_p15 : lw_okq (⟨"BlinkMesh$Mesh", "pieceOf", "(I)I"⟩, 15) := ⟨⟨by decide +kernel, by decide +kernel⟩, List.mem_of_getElem? (i := 18) (by decide +kernel), List.mem_of_getElem? (i := 427) (by decide +kernel), List.mem_of_getElem? (i := 428) (by decide +kernel)⟩
def lw_privs_1 : List (MethodName × Nat) := [(⟨"BlinkMesh$History", "dropOldest", "()V"⟩, 2), (⟨"BlinkMesh$Mesh", "fullPhase", "()I"⟩, 15), (⟨"BlinkMesh$Mesh", "grow", "()I"⟩, 15), (⟨"BlinkMesh$Mesh", "blink", "(I)V"⟩, 15), (⟨"BlinkMesh$Mesh", "pushFrom", "(II)I"⟩, 15), (⟨"BlinkMesh$Mesh", "pushAll", "(I)I"⟩, 15), (⟨"BlinkMesh$Mesh", "account", "(I)V"⟩, 15), (⟨"BlinkMesh$MeshText", "parseLamps", "()Z"⟩, 7), (⟨"BlinkMesh$MeshText", "parseLamp", "(I)Z"⟩, 7), (⟨"BlinkMesh$MeshText", "parseNumber", "(II)I"⟩, 7), (⟨"BlinkMesh$MeshText", "current", "()I"⟩, 7), (⟨"BlinkMesh$MeshText", "skip", "(C)Z"⟩, 7), (⟨"BlinkMesh$MeshText", "parseLinks", "()Z"⟩, 7), (⟨"BlinkMesh$MeshText", "parseLink", "()Z"⟩, 7), (⟨"BlinkMesh$MeshText", "parseLetter", "(I)I"⟩, 7), (⟨"BlinkMesh$Mesh", "pieceOf", "(I)I"⟩, 15)]
theorem lw_r1 : ∀ q ∈ lw_privs_1, lw_okq q := List.forall_mem_cons.mpr ⟨lw_p0, List.forall_mem_cons.mpr ⟨lw_p1, List.forall_mem_cons.mpr ⟨lw_p2, List.forall_mem_cons.mpr ⟨lw_p3, List.forall_mem_cons.mpr ⟨lw_p4, List.forall_mem_cons.mpr ⟨lw_p5, List.forall_mem_cons.mpr ⟨lw_p6, List.forall_mem_cons.mpr ⟨lw_p7, List.forall_mem_cons.mpr ⟨lw_p8, List.forall_mem_cons.mpr ⟨lw_p9, List.forall_mem_cons.mpr ⟨lw_p10, List.forall_mem_cons.mpr ⟨lw_p11, List.forall_mem_cons.mpr ⟨lw_p12, List.forall_mem_cons.mpr ⟨lw_p13, List.forall_mem_cons.mpr ⟨lw_p14, List.forall_mem_cons.mpr ⟨lw_p15, fun _ h => absurd h List.not_mem_nil⟩⟩⟩⟩⟩⟩⟩⟩⟩⟩⟩⟩⟩⟩⟩⟩
theorem lw_p16 : lw_okq (⟨"BlinkMesh$Mesh", "neighbours", "(I)I"⟩, 15) := ⟨⟨by decide +kernel, by decide +kernel⟩, List.mem_of_getElem? (i := 18) (by decide +kernel), List.mem_of_getElem? (i := 431) (by decide +kernel), List.mem_of_getElem? (i := 432) (by decide +kernel)⟩
theorem lw_p17 : lw_okq (⟨"BlinkMesh$Mesh", "agreeing", "(I)I"⟩, 15) := ⟨⟨by decide +kernel, by decide +kernel⟩, List.mem_of_getElem? (i := 18) (by decide +kernel), List.mem_of_getElem? (i := 435) (by decide +kernel), List.mem_of_getElem? (i := 436) (by decide +kernel)⟩
theorem lw_p18 : lw_okq (⟨"BlinkMesh", "trialTogetherIn", "()I"⟩, 6) := ⟨⟨by decide +kernel, by decide +kernel⟩, List.mem_of_getElem? (i := 10) (by decide +kernel), List.mem_of_getElem? (i := 459) (by decide +kernel), List.mem_of_getElem? (i := 460) (by decide +kernel)⟩
theorem lw_p19 : lw_okq (⟨"BlinkMesh", "spreadWith", "(II)I"⟩, 6) := ⟨⟨by decide +kernel, by decide +kernel⟩, List.mem_of_getElem? (i := 10) (by decide +kernel), List.mem_of_getElem? (i := 509) (by decide +kernel), List.mem_of_getElem? (i := 510) (by decide +kernel)⟩
theorem lw_p20 : lw_okq (⟨"BlinkMeshModel", "of", "(II)I"⟩, 13) := ⟨⟨by decide +kernel, by decide +kernel⟩, List.mem_of_getElem? (i := 525) (by decide +kernel), List.mem_of_getElem? (i := 578) (by decide +kernel), List.mem_of_getElem? (i := 579) (by decide +kernel)⟩
theorem lw_p21 : lw_okq (⟨"BlinkMeshModel", "record", "()V"⟩, 13) := ⟨⟨by decide +kernel, by decide +kernel⟩, List.mem_of_getElem? (i := 525) (by decide +kernel), List.mem_of_getElem? (i := 582) (by decide +kernel), List.mem_of_getElem? (i := 583) (by decide +kernel)⟩
theorem lw_p22 : lw_okq (⟨"BlinkMeshModel", "lay", "(III)V"⟩, 13) := ⟨⟨by decide +kernel, by decide +kernel⟩, List.mem_of_getElem? (i := 525) (by decide +kernel), List.mem_of_getElem? (i := 589) (by decide +kernel), List.mem_of_getElem? (i := 590) (by decide +kernel)⟩
theorem lw_p23 : lw_okq (⟨"BlinkMeshModel", "put", "(III)V"⟩, 13) := ⟨⟨by decide +kernel, by decide +kernel⟩, List.mem_of_getElem? (i := 525) (by decide +kernel), List.mem_of_getElem? (i := 593) (by decide +kernel), List.mem_of_getElem? (i := 594) (by decide +kernel)⟩
theorem lw_p24 : lw_okq (⟨"BlinkMeshModel", "round", "()I"⟩, 13) := ⟨⟨by decide +kernel, by decide +kernel⟩, List.mem_of_getElem? (i := 525) (by decide +kernel), List.mem_of_getElem? (i := 597) (by decide +kernel), List.mem_of_getElem? (i := 598) (by decide +kernel)⟩
theorem lw_p25 : lw_okq (⟨"BlinkMeshModel", "isLamp", "(I)Z"⟩, 13) := ⟨⟨by decide +kernel, by decide +kernel⟩, List.mem_of_getElem? (i := 525) (by decide +kernel), List.mem_of_getElem? (i := 605) (by decide +kernel), List.mem_of_getElem? (i := 606) (by decide +kernel)⟩
theorem lw_p26 : lw_okq (⟨"BlinkMeshModel", "isOn", "(I)Z"⟩, 13) := ⟨⟨by decide +kernel, by decide +kernel⟩, List.mem_of_getElem? (i := 525) (by decide +kernel), List.mem_of_getElem? (i := 616) (by decide +kernel), List.mem_of_getElem? (i := 617) (by decide +kernel)⟩
theorem lw_p27 : lw_okq (⟨"BlinkMeshModel", "lampsOn", "()I"⟩, 13) := ⟨⟨by decide +kernel, by decide +kernel⟩, List.mem_of_getElem? (i := 525) (by decide +kernel), List.mem_of_getElem? (i := 620) (by decide +kernel), List.mem_of_getElem? (i := 621) (by decide +kernel)⟩
theorem lw_p28 : lw_okq (⟨"BlinkMeshModel", "setOf", "(I)I"⟩, 13) := ⟨⟨by decide +kernel, by decide +kernel⟩, List.mem_of_getElem? (i := 525) (by decide +kernel), List.mem_of_getElem? (i := 624) (by decide +kernel), List.mem_of_getElem? (i := 625) (by decide +kernel)⟩
theorem lw_p29 : lw_okq (⟨"BlinkMeshModel", "connect", "(IIZ)V"⟩, 13) := ⟨⟨by decide +kernel, by decide +kernel⟩, List.mem_of_getElem? (i := 525) (by decide +kernel), List.mem_of_getElem? (i := 635) (by decide +kernel), List.mem_of_getElem? (i := 636) (by decide +kernel)⟩
theorem lw_p30 : lw_okq (⟨"BlinkMeshModel", "links", "()I"⟩, 13) := ⟨⟨by decide +kernel, by decide +kernel⟩, List.mem_of_getElem? (i := 525) (by decide +kernel), List.mem_of_getElem? (i := 639) (by decide +kernel), List.mem_of_getElem? (i := 640) (by decide +kernel)⟩
theorem lw_p31 : lw_okq (⟨"BlinkMeshModel", "goOn", "(I)V"⟩, 13) := ⟨⟨by decide +kernel, by decide +kernel⟩, List.mem_of_getElem? (i := 525) (by decide +kernel), List.mem_of_getElem? (i := 656) (by decide +kernel), List.mem_of_getElem? (i := 657) (by decide +kernel)⟩
def lw_privs_2 : List (MethodName × Nat) := [(⟨"BlinkMesh$Mesh", "neighbours", "(I)I"⟩, 15), (⟨"BlinkMesh$Mesh", "agreeing", "(I)I"⟩, 15), (⟨"BlinkMesh", "trialTogetherIn", "()I"⟩, 6), (⟨"BlinkMesh", "spreadWith", "(II)I"⟩, 6), (⟨"BlinkMeshModel", "of", "(II)I"⟩, 13), (⟨"BlinkMeshModel", "record", "()V"⟩, 13), (⟨"BlinkMeshModel", "lay", "(III)V"⟩, 13), (⟨"BlinkMeshModel", "put", "(III)V"⟩, 13), (⟨"BlinkMeshModel", "round", "()I"⟩, 13), (⟨"BlinkMeshModel", "isLamp", "(I)Z"⟩, 13), (⟨"BlinkMeshModel", "isOn", "(I)Z"⟩, 13), (⟨"BlinkMeshModel", "lampsOn", "()I"⟩, 13), (⟨"BlinkMeshModel", "setOf", "(I)I"⟩, 13), (⟨"BlinkMeshModel", "connect", "(IIZ)V"⟩, 13), (⟨"BlinkMeshModel", "links", "()I"⟩, 13), (⟨"BlinkMeshModel", "goOn", "(I)V"⟩, 13)]
theorem lw_r2 : ∀ q ∈ lw_privs_2, lw_okq q := List.forall_mem_cons.mpr ⟨lw_p16, List.forall_mem_cons.mpr ⟨lw_p17, List.forall_mem_cons.mpr ⟨lw_p18, List.forall_mem_cons.mpr ⟨lw_p19, List.forall_mem_cons.mpr ⟨lw_p20, List.forall_mem_cons.mpr ⟨lw_p21, List.forall_mem_cons.mpr ⟨lw_p22, List.forall_mem_cons.mpr ⟨lw_p23, List.forall_mem_cons.mpr ⟨lw_p24, List.forall_mem_cons.mpr ⟨lw_p25, List.forall_mem_cons.mpr ⟨lw_p26, List.forall_mem_cons.mpr ⟨lw_p27, List.forall_mem_cons.mpr ⟨lw_p28, List.forall_mem_cons.mpr ⟨lw_p29, List.forall_mem_cons.mpr ⟨lw_p30, List.forall_mem_cons.mpr ⟨lw_p31, fun _ h => absurd h List.not_mem_nil⟩⟩⟩⟩⟩⟩⟩⟩⟩⟩⟩⟩⟩⟩⟩⟩
theorem lw_p32 : lw_okq (⟨"BlinkMeshModel", "tick", "()I"⟩, 13) := ⟨⟨by decide +kernel, by decide +kernel⟩, List.mem_of_getElem? (i := 525) (by decide +kernel), List.mem_of_getElem? (i := 660) (by decide +kernel), List.mem_of_getElem? (i := 661) (by decide +kernel)⟩
theorem lw_p33 : lw_okq (⟨"BlinkMeshModel", "grow", "()V"⟩, 13) := ⟨⟨by decide +kernel, by decide +kernel⟩, List.mem_of_getElem? (i := 525) (by decide +kernel), List.mem_of_getElem? (i := 664) (by decide +kernel), List.mem_of_getElem? (i := 665) (by decide +kernel)⟩
theorem lw_p34 : lw_okq (⟨"BlinkMeshModel", "blink", "(I)I"⟩, 13) := ⟨⟨by decide +kernel, by decide +kernel⟩, List.mem_of_getElem? (i := 525) (by decide +kernel), List.mem_of_getElem? (i := 668) (by decide +kernel), List.mem_of_getElem? (i := 669) (by decide +kernel)⟩
theorem lw_p35 : lw_okq (⟨"BlinkMeshModel", "push", "(II)I"⟩, 13) := ⟨⟨by decide +kernel, by decide +kernel⟩, List.mem_of_getElem? (i := 525) (by decide +kernel), List.mem_of_getElem? (i := 672) (by decide +kernel), List.mem_of_getElem? (i := 673) (by decide +kernel)⟩
theorem lw_p36 : lw_okq (⟨"BlinkMeshModel", "readText", "()Z"⟩, 13) := ⟨⟨by decide +kernel, by decide +kernel⟩, List.mem_of_getElem? (i := 525) (by decide +kernel), List.mem_of_getElem? (i := 688) (by decide +kernel), List.mem_of_getElem? (i := 689) (by decide +kernel)⟩
theorem lw_p37 : lw_okq (⟨"BlinkMeshModel", "readLamp", "()Z"⟩, 13) := ⟨⟨by decide +kernel, by decide +kernel⟩, List.mem_of_getElem? (i := 525) (by decide +kernel), List.mem_of_getElem? (i := 692) (by decide +kernel), List.mem_of_getElem? (i := 693) (by decide +kernel)⟩
theorem lw_p38 : lw_okq (⟨"BlinkMeshModel", "readNumber", "(II)I"⟩, 13) := ⟨⟨by decide +kernel, by decide +kernel⟩, List.mem_of_getElem? (i := 525) (by decide +kernel), List.mem_of_getElem? (i := 696) (by decide +kernel), List.mem_of_getElem? (i := 697) (by decide +kernel)⟩
theorem lw_p39 : lw_okq (⟨"BlinkMeshModel", "isNext", "(II)Z"⟩, 13) := ⟨⟨by decide +kernel, by decide +kernel⟩, List.mem_of_getElem? (i := 525) (by decide +kernel), List.mem_of_getElem? (i := 700) (by decide +kernel), List.mem_of_getElem? (i := 701) (by decide +kernel)⟩
theorem lw_p40 : lw_okq (⟨"BlinkMeshModel", "takes", "(I)Z"⟩, 13) := ⟨⟨by decide +kernel, by decide +kernel⟩, List.mem_of_getElem? (i := 525) (by decide +kernel), List.mem_of_getElem? (i := 707) (by decide +kernel), List.mem_of_getElem? (i := 708) (by decide +kernel)⟩
theorem lw_p41 : lw_okq (⟨"BlinkMeshModel", "readLink", "()Z"⟩, 13) := ⟨⟨by decide +kernel, by decide +kernel⟩, List.mem_of_getElem? (i := 525) (by decide +kernel), List.mem_of_getElem? (i := 711) (by decide +kernel), List.mem_of_getElem? (i := 712) (by decide +kernel)⟩
theorem lw_p42 : lw_okq (⟨"BlinkMeshModel", "pieceOf", "(I)I"⟩, 13) := ⟨⟨by decide +kernel, by decide +kernel⟩, List.mem_of_getElem? (i := 525) (by decide +kernel), List.mem_of_getElem? (i := 731) (by decide +kernel), List.mem_of_getElem? (i := 732) (by decide +kernel)⟩
theorem lw_p43 : lw_okq (⟨"BlinkMeshModel", "agreeing", "(I)I"⟩, 13) := ⟨⟨by decide +kernel, by decide +kernel⟩, List.mem_of_getElem? (i := 525) (by decide +kernel), List.mem_of_getElem? (i := 735) (by decide +kernel), List.mem_of_getElem? (i := 736) (by decide +kernel)⟩
theorem lw_p44 : lw_okq (⟨"BlinkMeshModel", "distance", "(II)I"⟩, 13) := ⟨⟨by decide +kernel, by decide +kernel⟩, List.mem_of_getElem? (i := 525) (by decide +kernel), List.mem_of_getElem? (i := 743) (by decide +kernel), List.mem_of_getElem? (i := 744) (by decide +kernel)⟩
theorem lw_p45 : lw_okq (⟨"BlinkMeshModel", "untilTogether", "()I"⟩, 13) := ⟨⟨by decide +kernel, by decide +kernel⟩, List.mem_of_getElem? (i := 525) (by decide +kernel), List.mem_of_getElem? (i := 755) (by decide +kernel), List.mem_of_getElem? (i := 756) (by decide +kernel)⟩
theorem lw_p46 : lw_okq (⟨"BlinkMeshModel", "isTogether", "()Z"⟩, 13) := ⟨⟨by decide +kernel, by decide +kernel⟩, List.mem_of_getElem? (i := 525) (by decide +kernel), List.mem_of_getElem? (i := 759) (by decide +kernel), List.mem_of_getElem? (i := 760) (by decide +kernel)⟩
theorem lw_p47 : lw_okq (⟨"BlinkMeshModel", "greatestDistance", "()I"⟩, 13) := ⟨⟨by decide +kernel, by decide +kernel⟩, List.mem_of_getElem? (i := 525) (by decide +kernel), List.mem_of_getElem? (i := 763) (by decide +kernel), List.mem_of_getElem? (i := 764) (by decide +kernel)⟩
def lw_privs_3 : List (MethodName × Nat) := [(⟨"BlinkMeshModel", "tick", "()I"⟩, 13), (⟨"BlinkMeshModel", "grow", "()V"⟩, 13), (⟨"BlinkMeshModel", "blink", "(I)I"⟩, 13), (⟨"BlinkMeshModel", "push", "(II)I"⟩, 13), (⟨"BlinkMeshModel", "readText", "()Z"⟩, 13), (⟨"BlinkMeshModel", "readLamp", "()Z"⟩, 13), (⟨"BlinkMeshModel", "readNumber", "(II)I"⟩, 13), (⟨"BlinkMeshModel", "isNext", "(II)Z"⟩, 13), (⟨"BlinkMeshModel", "takes", "(I)Z"⟩, 13), (⟨"BlinkMeshModel", "readLink", "()Z"⟩, 13), (⟨"BlinkMeshModel", "pieceOf", "(I)I"⟩, 13), (⟨"BlinkMeshModel", "agreeing", "(I)I"⟩, 13), (⟨"BlinkMeshModel", "distance", "(II)I"⟩, 13), (⟨"BlinkMeshModel", "untilTogether", "()I"⟩, 13), (⟨"BlinkMeshModel", "isTogether", "()Z"⟩, 13), (⟨"BlinkMeshModel", "greatestDistance", "()I"⟩, 13)]
theorem lw_r3 : ∀ q ∈ lw_privs_3, lw_okq q := List.forall_mem_cons.mpr ⟨lw_p32, List.forall_mem_cons.mpr ⟨lw_p33, List.forall_mem_cons.mpr ⟨lw_p34, List.forall_mem_cons.mpr ⟨lw_p35, List.forall_mem_cons.mpr ⟨lw_p36, List.forall_mem_cons.mpr ⟨lw_p37, List.forall_mem_cons.mpr ⟨lw_p38, List.forall_mem_cons.mpr ⟨lw_p39, List.forall_mem_cons.mpr ⟨lw_p40, List.forall_mem_cons.mpr ⟨lw_p41, List.forall_mem_cons.mpr ⟨lw_p42, List.forall_mem_cons.mpr ⟨lw_p43, List.forall_mem_cons.mpr ⟨lw_p44, List.forall_mem_cons.mpr ⟨lw_p45, List.forall_mem_cons.mpr ⟨lw_p46, List.forall_mem_cons.mpr ⟨lw_p47, fun _ h => absurd h List.not_mem_nil⟩⟩⟩⟩⟩⟩⟩⟩⟩⟩⟩⟩⟩⟩⟩⟩
theorem lw_p48 : lw_okq (⟨"BlinkMeshModel", "pieces", "()I"⟩, 13) := ⟨⟨by decide +kernel, by decide +kernel⟩, List.mem_of_getElem? (i := 525) (by decide +kernel), List.mem_of_getElem? (i := 771) (by decide +kernel), List.mem_of_getElem? (i := 772) (by decide +kernel)⟩
theorem lw_p49 : lw_okq (⟨"BlinkMeshModel", "areRatesUnlike", "()Z"⟩, 13) := ⟨⟨by decide +kernel, by decide +kernel⟩, List.mem_of_getElem? (i := 525) (by decide +kernel), List.mem_of_getElem? (i := 775) (by decide +kernel), List.mem_of_getElem? (i := 776) (by decide +kernel)⟩
def lw_privs_4 : List (MethodName × Nat) := [(⟨"BlinkMeshModel", "pieces", "()I"⟩, 13), (⟨"BlinkMeshModel", "areRatesUnlike", "()Z"⟩, 13)]
theorem lw_r4 : ∀ q ∈ lw_privs_4, lw_okq q := List.forall_mem_cons.mpr ⟨lw_p48, List.forall_mem_cons.mpr ⟨lw_p49, fun _ h => absurd h List.not_mem_nil⟩⟩
def lw_privs : List (MethodName × Nat) := lw_privs_1 ++ (lw_privs_2 ++ (lw_privs_3 ++ (lw_privs_4)))
def lw_tbl : List Cond := k2_sels lw_privs ++ tables_1
theorem lw_privs_ok : ∀ q ∈ lw_privs, lw_okq q := by
  show ∀ q ∈ lw_privs_1 ++ (lw_privs_2 ++ (lw_privs_3 ++ (lw_privs_4))), lw_okq q
  exact List.forall_mem_append.mpr ⟨lw_r1, List.forall_mem_append.mpr ⟨lw_r2, List.forall_mem_append.mpr ⟨lw_r3, lw_r4⟩⟩⟩
-- ===== end of PART A; then your names; then what follows =====
theorem goodIn_r {big : List Cond} (ws : List Cond) (ps : List Nat) (hp : ws = ps.filterMap (fun i => big[i]?)) (h : ws.all goodWord = true) : GoodIn big ws := by
  intro w hw
  have h1 := List.all_eq_true.mp h w hw
  rw [hp] at hw
  obtain ⟨i, -, hi⟩ := List.mem_filterMap.mp hw
  have hm : w ∈ big := by first | exact List.mem_of_getElem? hi | exact List.getElem?_mem hi
  exact ⟨hm, good_of_word h1⟩
theorem goodIn_app {big a b : List Cond} (ha : GoodIn big a) (hb : GoodIn big b) : GoodIn big (a ++ b) := fun w h => (List.mem_append.mp h).elim (ha w) (hb w)
theorem goodIn_ca {big a b : List Cond} {c : Cond} (ha : GoodIn big (c :: a)) (hb : GoodIn big b) : GoodIn big (c :: (a ++ b)) := fun w h => (List.mem_cons.mp h).elim (fun e => ha w (List.mem_cons.mpr (Or.inl e))) (fun h => (List.mem_append.mp h).elim (fun h => ha w (List.mem_cons.mpr (Or.inr h))) (hb w))
theorem goodIn_sub {big ws : List Cond} (hm : ∀ w ∈ ws, w ∈ big) (h : ws.all goodWord = true) : GoodIn big ws := fun w hw => ⟨hm w hw, good_of_word (List.all_eq_true.mp h w hw)⟩
def RX0 : String := "BlinkMesh$History"
def TX0 : u_T := fun k => match k with
  | 0 => ("BlinkMesh$History", "states", "[LBlinkMesh$Mesh;", true)
  | _ => ("BlinkMesh$History", "kept", "I", false)
def tyX0 : Nat → FieldType := fun k => match k with
  | 0 => .array (.object "BlinkMesh$Mesh")
  | _ => .int
theorem nmX0 : ∀ a, a < 2 → ∀ b, b < 2 → a ≠ b → (TX0 a).2.1 ≠ (TX0 b).2.1 := by decide +kernel
theorem tyX0_ok : ∀ k, k < 2 → parseFieldDescriptor (TX0 k).2.2.1 = some (tyX0 k) := by decide +kernel
abbrev cX0_init : ByteArray := prog_2_method_1_code
def yX0_init : MethodName := ⟨RX0, "<init>", "()V"⟩
abbrev cX0_size : ByteArray := prog_2_method_2_code
def yX0_size : MethodName := ⟨RX0, "size", "()I"⟩
abbrev cX0_remember : ByteArray := prog_2_method_3_code
def yX0_remember : MethodName := ⟨RX0, "remember", "(LBlinkMesh$Mesh;)V"⟩
abbrev cX0_dropOldest : ByteArray := prog_2_method_4_code
def yX0_dropOldest : MethodName := ⟨RX0, "dropOldest", "()V"⟩
abbrev cX0_takeBack : ByteArray := prog_2_method_5_code
def yX0_takeBack : MethodName := ⟨RX0, "takeBack", "(LBlinkMesh$Mesh;)V"⟩
def RX1 : String := "BlinkMesh$Mesh"
def TX1 : u_T := fun k => match k with
  | 0 => ("BlinkMesh$Mesh", "phase", "[I", true)
  | 1 => ("BlinkMesh$Mesh", "rate", "[I", true)
  | 2 => ("BlinkMesh$Mesh", "deaf", "[I", true)
  | 3 => ("BlinkMesh$Mesh", "linked", "[I", true)
  | 4 => ("BlinkMesh$Mesh", "blinks", "[I", true)
  | 5 => ("BlinkMesh$Mesh", "latest", "[I", true)
  | 6 => ("BlinkMesh$Mesh", "pushes", "[I", true)
  | 7 => ("BlinkMesh$Mesh", "settings", "[I", true)
  | 8 => ("BlinkMesh$Mesh", "there", "I", false)
  | 9 => ("BlinkMesh$Mesh", "on", "I", false)
  | 10 => ("BlinkMesh$Mesh", "tick", "I", false)
  | 11 => ("BlinkMesh$Mesh", "blinkCount", "I", false)
  | 12 => ("BlinkMesh$Mesh", "pushCount", "I", false)
  | 13 => ("BlinkMesh$Mesh", "sharedTicks", "I", false)
  | _ => ("BlinkMesh$Mesh", "mostTogether", "I", false)
def tyX1 : Nat → FieldType := fun k => match k with
  | 0 => .array .int
  | 1 => .array .int
  | 2 => .array .int
  | 3 => .array .int
  | 4 => .array .int
  | 5 => .array .int
  | 6 => .array .int
  | 7 => .array .int
  | 8 => .int
  | 9 => .int
  | 10 => .int
  | 11 => .int
  | 12 => .int
  | 13 => .int
  | _ => .int
theorem nmX1 : ∀ a, a < 15 → ∀ b, b < 15 → a ≠ b → (TX1 a).2.1 ≠ (TX1 b).2.1 := by decide +kernel
theorem tyX1_ok : ∀ k, k < 15 → parseFieldDescriptor (TX1 k).2.2.1 = some (tyX1 k) := by decide +kernel
abbrev cX1_init : ByteArray := prog_3_method_1_code
def yX1_init : MethodName := ⟨RX1, "<init>", "()V"⟩
abbrev cX1_copyFrom : ByteArray := prog_3_method_2_code
def yX1_copyFrom : MethodName := ⟨RX1, "copyFrom", "(LBlinkMesh$Mesh;)V"⟩
abbrev cX1_has : ByteArray := prog_3_method_3_code
def yX1_has : MethodName := ⟨RX1, "has", "(I)Z"⟩
abbrev cX1_isOn : ByteArray := prog_3_method_4_code
def yX1_isOn : MethodName := ⟨RX1, "isOn", "(I)Z"⟩
abbrev cX1_isLinked : ByteArray := prog_3_method_5_code
def yX1_isLinked : MethodName := ⟨RX1, "isLinked", "(II)Z"⟩
abbrev cX1_couldLink : ByteArray := prog_3_method_6_code
def yX1_couldLink : MethodName := ⟨RX1, "couldLink", "(II)Z"⟩
abbrev cX1_isWholePhase : ByteArray := prog_3_method_7_code
def yX1_isWholePhase : MethodName := ⟨RX1, "isWholePhase", "(I)Z"⟩
abbrev cX1_setting : ByteArray := prog_3_method_8_code
def yX1_setting : MethodName := ⟨RX1, "setting", "(I)I"⟩
abbrev cX1_tickNumber : ByteArray := prog_3_method_9_code
def yX1_tickNumber : MethodName := ⟨RX1, "tickNumber", "()I"⟩
abbrev cX1_allBlinks : ByteArray := prog_3_method_10_code
def yX1_allBlinks : MethodName := ⟨RX1, "allBlinks", "()I"⟩
abbrev cX1_lamps : ByteArray := prog_3_method_11_code
def yX1_lamps : MethodName := ⟨RX1, "lamps", "()I"⟩
abbrev cX1_lampsOn : ByteArray := prog_3_method_12_code
def yX1_lampsOn : MethodName := ⟨RX1, "lampsOn", "()I"⟩
abbrev cX1_links : ByteArray := prog_3_method_13_code
def yX1_links : MethodName := ⟨RX1, "links", "()I"⟩
abbrev cX1_freeNumber : ByteArray := prog_3_method_14_code
def yX1_freeNumber : MethodName := ⟨RX1, "freeNumber", "()I"⟩
abbrev cX1_place : ByteArray := prog_3_method_15_code
def yX1_place : MethodName := ⟨RX1, "place", "(III)V"⟩
abbrev cX1_remove : ByteArray := prog_3_method_16_code
def yX1_remove : MethodName := ⟨RX1, "remove", "(I)I"⟩
abbrev cX1_removeAll : ByteArray := prog_3_method_17_code
def yX1_removeAll : MethodName := ⟨RX1, "removeAll", "()V"⟩
abbrev cX1_switchTo : ByteArray := prog_3_method_18_code
def yX1_switchTo : MethodName := ⟨RX1, "switchTo", "(IZ)V"⟩
abbrev cX1_changeLink : ByteArray := prog_3_method_19_code
def yX1_changeLink : MethodName := ⟨RX1, "changeLink", "(IIZ)V"⟩
abbrev cX1_retune : ByteArray := prog_3_method_20_code
def yX1_retune : MethodName := ⟨RX1, "retune", "(III)I"⟩
abbrev cX1_changeSetting : ByteArray := prog_3_method_21_code
def yX1_changeSetting : MethodName := ⟨RX1, "changeSetting", "(II)I"⟩
abbrev cX1_fitPhases : ByteArray := prog_3_method_22_code
def yX1_fitPhases : MethodName := ⟨RX1, "fitPhases", "()V"⟩
abbrev cX1_fullPhase : ByteArray := prog_3_method_23_code
def yX1_fullPhase : MethodName := ⟨RX1, "fullPhase", "()I"⟩
abbrev cX1_tickOften : ByteArray := prog_3_method_24_code
def yX1_tickOften : MethodName := ⟨RX1, "tickOften", "(I)V"⟩
abbrev cX1_tickOnce : ByteArray := prog_3_method_25_code
def yX1_tickOnce : MethodName := ⟨RX1, "tickOnce", "()I"⟩
abbrev cX1_grow : ByteArray := prog_3_method_26_code
def yX1_grow : MethodName := ⟨RX1, "grow", "()I"⟩
abbrev cX1_blink : ByteArray := prog_3_method_27_code
def yX1_blink : MethodName := ⟨RX1, "blink", "(I)V"⟩
abbrev cX1_pushFrom : ByteArray := prog_3_method_28_code
def yX1_pushFrom : MethodName := ⟨RX1, "pushFrom", "(II)I"⟩
abbrev cX1_pushAll : ByteArray := prog_3_method_29_code
def yX1_pushAll : MethodName := ⟨RX1, "pushAll", "(I)I"⟩
abbrev cX1_account : ByteArray := prog_3_method_30_code
def yX1_account : MethodName := ⟨RX1, "account", "(I)V"⟩
abbrev cX1_distance : ByteArray := prog_3_method_31_code
def yX1_distance : MethodName := ⟨RX1, "distance", "(II)I"⟩
abbrev cX1_greatestDistance : ByteArray := prog_3_method_32_code
def yX1_greatestDistance : MethodName := ⟨RX1, "greatestDistance", "()I"⟩
abbrev cX1_isTogether : ByteArray := prog_3_method_33_code
def yX1_isTogether : MethodName := ⟨RX1, "isTogether", "()Z"⟩
abbrev cX1_hasUnlikeRates : ByteArray := prog_3_method_34_code
def yX1_hasUnlikeRates : MethodName := ⟨RX1, "hasUnlikeRates", "()Z"⟩
abbrev cX1_pieceOf : ByteArray := prog_3_method_35_code
def yX1_pieceOf : MethodName := ⟨RX1, "pieceOf", "(I)I"⟩
abbrev cX1_neighbours : ByteArray := prog_3_method_36_code
def yX1_neighbours : MethodName := ⟨RX1, "neighbours", "(I)I"⟩
abbrev cX1_pieces : ByteArray := prog_3_method_37_code
def yX1_pieces : MethodName := ⟨RX1, "pieces", "()I"⟩
abbrev cX1_agreeing : ByteArray := prog_3_method_38_code
def yX1_agreeing : MethodName := ⟨RX1, "agreeing", "(I)I"⟩
abbrev cX1_lampWithMostLinks : ByteArray := prog_3_method_39_code
def yX1_lampWithMostLinks : MethodName := ⟨RX1, "lampWithMostLinks", "()I"⟩
abbrev cX1_tellLamp : ByteArray := prog_3_method_40_code
def yX1_tellLamp : MethodName := ⟨RX1, "tellLamp", "(II)I"⟩
abbrev cX1_tellMesh : ByteArray := prog_3_method_41_code
def yX1_tellMesh : MethodName := ⟨RX1, "tellMesh", "(I)I"⟩
def RX2 : String := "BlinkMesh$MeshText"
def TX2 : u_T := fun k => match k with
  | 0 => ("BlinkMesh$MeshText", "characters", "[C", true)
  | 1 => ("BlinkMesh$MeshText", "length", "I", false)
  | 2 => ("BlinkMesh$MeshText", "place", "I", false)
  | 3 => ("BlinkMesh$MeshText", "phase", "[I", true)
  | 4 => ("BlinkMesh$MeshText", "rate", "[I", true)
  | 5 => ("BlinkMesh$MeshText", "lampCount", "I", false)
  | _ => ("BlinkMesh$MeshText", "linked", "[I", true)
def tyX2 : Nat → FieldType := fun k => match k with
  | 0 => .array .char
  | 1 => .int
  | 2 => .int
  | 3 => .array .int
  | 4 => .array .int
  | 5 => .int
  | _ => .array .int
theorem nmX2 : ∀ a, a < 7 → ∀ b, b < 7 → a ≠ b → (TX2 a).2.1 ≠ (TX2 b).2.1 := by decide +kernel
theorem tyX2_ok : ∀ k, k < 7 → parseFieldDescriptor (TX2 k).2.2.1 = some (tyX2 k) := by decide +kernel
abbrev cX2_init : ByteArray := prog_4_method_1_code
def yX2_init : MethodName := ⟨RX2, "<init>", "()V"⟩
abbrev cX2_length : ByteArray := prog_4_method_2_code
def yX2_length : MethodName := ⟨RX2, "length", "()I"⟩
abbrev cX2_fault : ByteArray := prog_4_method_3_code
def yX2_fault : MethodName := ⟨RX2, "fault", "()I"⟩
abbrev cX2_isFull : ByteArray := prog_4_method_4_code
def yX2_isFull : MethodName := ⟨RX2, "isFull", "()Z"⟩
abbrev cX2_append : ByteArray := prog_4_method_5_code
def yX2_append : MethodName := ⟨RX2, "append", "(C)V"⟩
abbrev cX2_empty : ByteArray := prog_4_method_6_code
def yX2_empty : MethodName := ⟨RX2, "empty", "()V"⟩
abbrev cX2_build : ByteArray := prog_4_method_7_code
def yX2_build : MethodName := ⟨RX2, "build", "(LBlinkMesh$Mesh;)V"⟩
abbrev cX2_parse : ByteArray := prog_4_method_8_code
def yX2_parse : MethodName := ⟨RX2, "parse", "()Z"⟩
abbrev cX2_parseLamps : ByteArray := prog_4_method_9_code
def yX2_parseLamps : MethodName := ⟨RX2, "parseLamps", "()Z"⟩
abbrev cX2_parseLamp : ByteArray := prog_4_method_10_code
def yX2_parseLamp : MethodName := ⟨RX2, "parseLamp", "(I)Z"⟩
abbrev cX2_parseNumber : ByteArray := prog_4_method_11_code
def yX2_parseNumber : MethodName := ⟨RX2, "parseNumber", "(II)I"⟩
abbrev cX2_begins : ByteArray := prog_4_method_12_code
def yX2_begins : MethodName := ⟨RX2, "begins", "(III)Z"⟩
abbrev cX2_parseLinks : ByteArray := prog_4_method_13_code
def yX2_parseLinks : MethodName := ⟨RX2, "parseLinks", "()Z"⟩
abbrev cX2_parseLink : ByteArray := prog_4_method_14_code
def yX2_parseLink : MethodName := ⟨RX2, "parseLink", "()Z"⟩
abbrev cX2_parseLetter : ByteArray := prog_4_method_15_code
def yX2_parseLetter : MethodName := ⟨RX2, "parseLetter", "(I)I"⟩
abbrev cX2_current : ByteArray := prog_4_method_16_code
def yX2_current : MethodName := ⟨RX2, "current", "()I"⟩
abbrev cX2_skip : ByteArray := prog_4_method_17_code
def yX2_skip : MethodName := ⟨RX2, "skip", "(C)Z"⟩
def RX3 : String := "BlinkMesh"
def TX3 : u_T := fun k => match k with
  | 0 => ("BlinkMesh", "mesh", "LBlinkMesh$Mesh;", true)
  | 1 => ("BlinkMesh", "trial", "LBlinkMesh$Mesh;", true)
  | 2 => ("BlinkMesh", "snapshot", "LBlinkMesh$Mesh;", true)
  | 3 => ("BlinkMesh", "hasSnapshot", "Z", false)
  | 4 => ("BlinkMesh", "history", "LBlinkMesh$History;", true)
  | _ => ("BlinkMesh", "text", "LBlinkMesh$MeshText;", true)
def tyX3 : Nat → FieldType := fun k => match k with
  | 0 => .object "BlinkMesh$Mesh"
  | 1 => .object "BlinkMesh$Mesh"
  | 2 => .object "BlinkMesh$Mesh"
  | 3 => .boolean
  | 4 => .object "BlinkMesh$History"
  | _ => .object "BlinkMesh$MeshText"
theorem nmX3 : ∀ a, a < 6 → ∀ b, b < 6 → a ≠ b → (TX3 a).2.1 ≠ (TX3 b).2.1 := by decide +kernel
theorem tyX3_ok : ∀ k, k < 6 → parseFieldDescriptor (TX3 k).2.2.1 = some (tyX3 k) := by decide +kernel
abbrev cX3_init : ByteArray := prog_1_method_1_code
def yX3_init : MethodName := ⟨RX3, "<init>", "()V"⟩
abbrev cX3_come : ByteArray := prog_1_method_2_code
def yX3_come : MethodName := ⟨RX3, "come", "(II)I"⟩
abbrev cX3_goAway : ByteArray := prog_1_method_3_code
def yX3_goAway : MethodName := ⟨RX3, "goAway", "(I)I"⟩
abbrev cX3_turn : ByteArray := prog_1_method_4_code
def yX3_turn : MethodName := ⟨RX3, "turn", "(IZ)I"⟩
abbrev cX3_link : ByteArray := prog_1_method_5_code
def yX3_link : MethodName := ⟨RX3, "link", "(IIZ)I"⟩
abbrev cX3_tune : ByteArray := prog_1_method_6_code
def yX3_tune : MethodName := ⟨RX3, "tune", "(III)I"⟩
abbrev cX3_set : ByteArray := prog_1_method_7_code
def yX3_set : MethodName := ⟨RX3, "set", "(II)I"⟩
abbrev cX3_pass : ByteArray := prog_1_method_8_code
def yX3_pass : MethodName := ⟨RX3, "pass", "(I)I"⟩
abbrev cX3_type : ByteArray := prog_1_method_9_code
def yX3_type : MethodName := ⟨RX3, "type", "(C)I"⟩
abbrev cX3_clearText : ByteArray := prog_1_method_10_code
def yX3_clearText : MethodName := ⟨RX3, "clearText", "()I"⟩
abbrev cX3_readMesh : ByteArray := prog_1_method_11_code
def yX3_readMesh : MethodName := ⟨RX3, "readMesh", "()I"⟩
abbrev cX3_undo : ByteArray := prog_1_method_12_code
def yX3_undo : MethodName := ⟨RX3, "undo", "()I"⟩
abbrev cX3_keep : ByteArray := prog_1_method_13_code
def yX3_keep : MethodName := ⟨RX3, "keep", "()I"⟩
abbrev cX3_restore : ByteArray := prog_1_method_14_code
def yX3_restore : MethodName := ⟨RX3, "restore", "()I"⟩
abbrev cX3_lamp : ByteArray := prog_1_method_15_code
def yX3_lamp : MethodName := ⟨RX3, "lamp", "(II)I"⟩
abbrev cX3_apart : ByteArray := prog_1_method_16_code
def yX3_apart : MethodName := ⟨RX3, "apart", "(II)I"⟩
abbrev cX3_next : ByteArray := prog_1_method_17_code
def yX3_next : MethodName := ⟨RX3, "next", "(I)I"⟩
abbrev cX3_togetherIn : ByteArray := prog_1_method_18_code
def yX3_togetherIn : MethodName := ⟨RX3, "togetherIn", "()I"⟩
abbrev cX3_reason : ByteArray := prog_1_method_19_code
def yX3_reason : MethodName := ⟨RX3, "reason", "()I"⟩
abbrev cX3_spread : ByteArray := prog_1_method_20_code
def yX3_spread : MethodName := ⟨RX3, "spread", "()I"⟩
abbrev cX3_ifLinked : ByteArray := prog_1_method_21_code
def yX3_ifLinked : MethodName := ⟨RX3, "ifLinked", "(II)I"⟩
abbrev cX3_hub : ByteArray := prog_1_method_22_code
def yX3_hub : MethodName := ⟨RX3, "hub", "()I"⟩
abbrev cX3_bestLink : ByteArray := prog_1_method_23_code
def yX3_bestLink : MethodName := ⟨RX3, "bestLink", "(I)I"⟩
abbrev cX3_count : ByteArray := prog_1_method_24_code
def yX3_count : MethodName := ⟨RX3, "count", "(I)I"⟩
abbrev cX3_isRate : ByteArray := prog_1_method_25_code
def yX3_isRate : MethodName := ⟨RX3, "isRate", "(I)Z"⟩
abbrev cX3_holds : ByteArray := prog_1_method_26_code
def yX3_holds : MethodName := ⟨RX3, "holds", "(II)Z"⟩
abbrev cX3_trialTogetherIn : ByteArray := prog_1_method_27_code
def yX3_trialTogetherIn : MethodName := ⟨RX3, "trialTogetherIn", "()I"⟩
abbrev cX3_spreadWith : ByteArray := prog_1_method_28_code
def yX3_spreadWith : MethodName := ⟨RX3, "spreadWith", "(II)I"⟩
def RX4 : String := "BlinkMeshModel"
def TX4 : u_T := fun k => match k with
  | 0 => ("BlinkMeshModel", "s", "[I", true)
  | 1 => ("BlinkMeshModel", "history", "[I", true)
  | 2 => ("BlinkMeshModel", "kept", "I", false)
  | 3 => ("BlinkMeshModel", "snapshot", "[I", true)
  | 4 => ("BlinkMeshModel", "isTaken", "Z", false)
  | 5 => ("BlinkMeshModel", "before", "[I", true)
  | 6 => ("BlinkMeshModel", "text", "[C", true)
  | 7 => ("BlinkMeshModel", "length", "I", false)
  | 8 => ("BlinkMeshModel", "place", "I", false)
  | 9 => ("BlinkMeshModel", "told", "I", false)
  | 10 => ("BlinkMeshModel", "phases", "[I", true)
  | 11 => ("BlinkMeshModel", "rates", "[I", true)
  | _ => ("BlinkMeshModel", "toldLinks", "[I", true)
def tyX4 : Nat → FieldType := fun k => match k with
  | 0 => .array .int
  | 1 => .array .int
  | 2 => .int
  | 3 => .array .int
  | 4 => .boolean
  | 5 => .array .int
  | 6 => .array .char
  | 7 => .int
  | 8 => .int
  | 9 => .int
  | 10 => .array .int
  | 11 => .array .int
  | _ => .array .int
theorem nmX4 : ∀ a, a < 13 → ∀ b, b < 13 → a ≠ b → (TX4 a).2.1 ≠ (TX4 b).2.1 := by decide +kernel
theorem tyX4_ok : ∀ k, k < 13 → parseFieldDescriptor (TX4 k).2.2.1 = some (tyX4 k) := by decide +kernel
abbrev cX4_init : ByteArray := prog_6_method_1_code
def yX4_init : MethodName := ⟨RX4, "<init>", "()V"⟩
abbrev cX4_in : ByteArray := prog_6_method_3_code
def yX4_in : MethodName := ⟨RX4, "in", "(III)Z"⟩
abbrev cX4_has : ByteArray := prog_6_method_4_code
def yX4_has : MethodName := ⟨RX4, "has", "(II)Z"⟩
abbrev cX4_bits : ByteArray := prog_6_method_5_code
def yX4_bits : MethodName := ⟨RX4, "bits", "(I)I"⟩
abbrev cX4_of : ByteArray := prog_6_method_6_code
def yX4_of : MethodName := ⟨RX4, "of", "(II)I"⟩
abbrev cX4_put : ByteArray := prog_6_method_7_code
def yX4_put : MethodName := ⟨RX4, "put", "(III)V"⟩
abbrev cX4_isLamp : ByteArray := prog_6_method_8_code
def yX4_isLamp : MethodName := ⟨RX4, "isLamp", "(I)Z"⟩
abbrev cX4_isOn : ByteArray := prog_6_method_9_code
def yX4_isOn : MethodName := ⟨RX4, "isOn", "(I)Z"⟩
abbrev cX4_round : ByteArray := prog_6_method_10_code
def yX4_round : MethodName := ⟨RX4, "round", "()I"⟩
abbrev cX4_copy : ByteArray := prog_6_method_11_code
def yX4_copy : MethodName := ⟨RX4, "copy", "([II[II)V"⟩
abbrev cX4_record : ByteArray := prog_6_method_12_code
def yX4_record : MethodName := ⟨RX4, "record", "()V"⟩
abbrev cX4_setOf : ByteArray := prog_6_method_13_code
def yX4_setOf : MethodName := ⟨RX4, "setOf", "(I)I"⟩
abbrev cX4_lampsOn : ByteArray := prog_6_method_14_code
def yX4_lampsOn : MethodName := ⟨RX4, "lampsOn", "()I"⟩
abbrev cX4_links : ByteArray := prog_6_method_15_code
def yX4_links : MethodName := ⟨RX4, "links", "()I"⟩
abbrev cX4_grow : ByteArray := prog_6_method_16_code
def yX4_grow : MethodName := ⟨RX4, "grow", "()V"⟩
abbrev cX4_blink : ByteArray := prog_6_method_17_code
def yX4_blink : MethodName := ⟨RX4, "blink", "(I)I"⟩
abbrev cX4_push : ByteArray := prog_6_method_18_code
def yX4_push : MethodName := ⟨RX4, "push", "(II)I"⟩
abbrev cX4_tick : ByteArray := prog_6_method_19_code
def yX4_tick : MethodName := ⟨RX4, "tick", "()I"⟩
abbrev cX4_goOn : ByteArray := prog_6_method_20_code
def yX4_goOn : MethodName := ⟨RX4, "goOn", "(I)V"⟩
abbrev cX4_pieceOf : ByteArray := prog_6_method_21_code
def yX4_pieceOf : MethodName := ⟨RX4, "pieceOf", "(I)I"⟩
abbrev cX4_pieces : ByteArray := prog_6_method_22_code
def yX4_pieces : MethodName := ⟨RX4, "pieces", "()I"⟩
abbrev cX4_agreeing : ByteArray := prog_6_method_23_code
def yX4_agreeing : MethodName := ⟨RX4, "agreeing", "(I)I"⟩
abbrev cX4_distance : ByteArray := prog_6_method_24_code
def yX4_distance : MethodName := ⟨RX4, "distance", "(II)I"⟩
abbrev cX4_greatestDistance : ByteArray := prog_6_method_25_code
def yX4_greatestDistance : MethodName := ⟨RX4, "greatestDistance", "()I"⟩
abbrev cX4_isTogether : ByteArray := prog_6_method_26_code
def yX4_isTogether : MethodName := ⟨RX4, "isTogether", "()Z"⟩
abbrev cX4_come : ByteArray := prog_6_method_27_code
def yX4_come : MethodName := ⟨RX4, "come", "(II)I"⟩
abbrev cX4_lay : ByteArray := prog_6_method_28_code
def yX4_lay : MethodName := ⟨RX4, "lay", "(III)V"⟩
abbrev cX4_connect : ByteArray := prog_6_method_29_code
def yX4_connect : MethodName := ⟨RX4, "connect", "(IIZ)V"⟩
abbrev cX4_goAway : ByteArray := prog_6_method_30_code
def yX4_goAway : MethodName := ⟨RX4, "goAway", "(I)I"⟩
abbrev cX4_turn : ByteArray := prog_6_method_31_code
def yX4_turn : MethodName := ⟨RX4, "turn", "(IZ)I"⟩
abbrev cX4_link : ByteArray := prog_6_method_32_code
def yX4_link : MethodName := ⟨RX4, "link", "(IIZ)I"⟩
abbrev cX4_tune : ByteArray := prog_6_method_33_code
def yX4_tune : MethodName := ⟨RX4, "tune", "(III)I"⟩
abbrev cX4_set : ByteArray := prog_6_method_34_code
def yX4_set : MethodName := ⟨RX4, "set", "(II)I"⟩
abbrev cX4_pass : ByteArray := prog_6_method_35_code
def yX4_pass : MethodName := ⟨RX4, "pass", "(I)I"⟩
abbrev cX4_type : ByteArray := prog_6_method_36_code
def yX4_type : MethodName := ⟨RX4, "type", "(C)I"⟩
abbrev cX4_clearText : ByteArray := prog_6_method_37_code
def yX4_clearText : MethodName := ⟨RX4, "clearText", "()I"⟩
abbrev cX4_isNext : ByteArray := prog_6_method_38_code
def yX4_isNext : MethodName := ⟨RX4, "isNext", "(II)Z"⟩
abbrev cX4_takes : ByteArray := prog_6_method_39_code
def yX4_takes : MethodName := ⟨RX4, "takes", "(I)Z"⟩
abbrev cX4_begins : ByteArray := prog_6_method_40_code
def yX4_begins : MethodName := ⟨RX4, "begins", "(III)Z"⟩
abbrev cX4_readNumber : ByteArray := prog_6_method_41_code
def yX4_readNumber : MethodName := ⟨RX4, "readNumber", "(II)I"⟩
abbrev cX4_readLamp : ByteArray := prog_6_method_42_code
def yX4_readLamp : MethodName := ⟨RX4, "readLamp", "()Z"⟩
abbrev cX4_readLink : ByteArray := prog_6_method_43_code
def yX4_readLink : MethodName := ⟨RX4, "readLink", "()Z"⟩
abbrev cX4_readText : ByteArray := prog_6_method_44_code
def yX4_readText : MethodName := ⟨RX4, "readText", "()Z"⟩
abbrev cX4_readMesh : ByteArray := prog_6_method_45_code
def yX4_readMesh : MethodName := ⟨RX4, "readMesh", "()I"⟩
abbrev cX4_undo : ByteArray := prog_6_method_46_code
def yX4_undo : MethodName := ⟨RX4, "undo", "()I"⟩
abbrev cX4_keep : ByteArray := prog_6_method_47_code
def yX4_keep : MethodName := ⟨RX4, "keep", "()I"⟩
abbrev cX4_restore : ByteArray := prog_6_method_48_code
def yX4_restore : MethodName := ⟨RX4, "restore", "()I"⟩
abbrev cX4_lamp : ByteArray := prog_6_method_49_code
def yX4_lamp : MethodName := ⟨RX4, "lamp", "(II)I"⟩
abbrev cX4_apart : ByteArray := prog_6_method_50_code
def yX4_apart : MethodName := ⟨RX4, "apart", "(II)I"⟩
abbrev cX4_next : ByteArray := prog_6_method_51_code
def yX4_next : MethodName := ⟨RX4, "next", "(I)I"⟩
abbrev cX4_untilTogether : ByteArray := prog_6_method_52_code
def yX4_untilTogether : MethodName := ⟨RX4, "untilTogether", "()I"⟩
abbrev cX4_togetherIn : ByteArray := prog_6_method_53_code
def yX4_togetherIn : MethodName := ⟨RX4, "togetherIn", "()I"⟩
abbrev cX4_areRatesUnlike : ByteArray := prog_6_method_54_code
def yX4_areRatesUnlike : MethodName := ⟨RX4, "areRatesUnlike", "()Z"⟩
abbrev cX4_reason : ByteArray := prog_6_method_55_code
def yX4_reason : MethodName := ⟨RX4, "reason", "()I"⟩
abbrev cX4_spread : ByteArray := prog_6_method_56_code
def yX4_spread : MethodName := ⟨RX4, "spread", "()I"⟩
abbrev cX4_ifLinked : ByteArray := prog_6_method_57_code
def yX4_ifLinked : MethodName := ⟨RX4, "ifLinked", "(II)I"⟩
abbrev cX4_hub : ByteArray := prog_6_method_58_code
def yX4_hub : MethodName := ⟨RX4, "hub", "()I"⟩
abbrev cX4_bestLink : ByteArray := prog_6_method_59_code
def yX4_bestLink : MethodName := ⟨RX4, "bestLink", "(I)I"⟩
abbrev cX4_count : ByteArray := prog_6_method_60_code
def yX4_count : MethodName := ⟨RX4, "count", "(I)I"⟩
def RJx8e188 : String := "java/lang/Cloneable"
def RJ6 : String := "java/lang/Integer"
abbrev cJ6_bitCount_0f7a4 : ByteArray := prog_8_method_49_code
def yJ6_bitCount_0f7a4 : MethodName := ⟨RJ6, "bitCount", "(I)I"⟩
def RJ9 : String := "java/lang/Math"
abbrev cJ9_abs_0f7a4 : ByteArray := prog_9_method_59_code
def yJ9_abs_0f7a4 : MethodName := ⟨RJ9, "abs", "(I)I"⟩
abbrev cJ9_max_7cf53 : ByteArray := prog_9_method_65_code
def yJ9_max_7cf53 : MethodName := ⟨RJ9, "max", "(II)I"⟩
abbrev cJ9_min_7cf53 : ByteArray := prog_9_method_69_code
def yJ9_min_7cf53 : MethodName := ⟨RJ9, "min", "(II)I"⟩
def RJ10 : String := "java/lang/System"
def RL : String := "BlinkMeshLaw"
abbrev cL_law : ByteArray := code
def yL_law : MethodName := ⟨RL, "law", "([I)Z"⟩
abbrev vwCl : List vw_C := [(RX0, TX0, 2), (RX1, TX1, 15), (RX2, TX2, 7), (RX3, TX3, 6), (RX4, TX4, 13)]
