section
-- ===== PART A: goes FIRST, ahead of the names: the tables' words, and 'selects' of the private methods out of them =====
/-- a private method of a class that the tables say can be made, by its rows of tables_1 -/
def lw_okq (q : MethodName × Nat) : Prop := (q.1.cls ≠ "java/lang/invoke/MethodHandle" ∧ q.1.cls ≠ "java/lang/invoke/VarHandle") ∧ Cond.instantiable q.1.cls q.2 ∈ tables_1 ∧ Cond.privateMethod q.1 ∈ tables_1 ∧ Cond.instanceMethod q.1 ∈ tables_1
theorem lw_p0 : lw_okq (⟨"BlinkMesh$History", "dropOldest", "()V"⟩, 2) := ⟨⟨by decide +kernel, by decide +kernel⟩, List.mem_of_getElem? (i := 80) (by decide +kernel), List.mem_of_getElem? (i := 166) (by decide +kernel), List.mem_of_getElem? (i := 167) (by decide +kernel)⟩
theorem lw_p1 : lw_okq (⟨"BlinkMesh$Mesh", "fullPhase", "()I"⟩, 15) := ⟨⟨by decide +kernel, by decide +kernel⟩, List.mem_of_getElem? (i := 18) (by decide +kernel), List.mem_of_getElem? (i := 259) (by decide +kernel), List.mem_of_getElem? (i := 260) (by decide +kernel)⟩
theorem lw_p2 : lw_okq (⟨"BlinkMesh$Mesh", "grow", "()I"⟩, 15) := ⟨⟨by decide +kernel, by decide +kernel⟩, List.mem_of_getElem? (i := 18) (by decide +kernel), List.mem_of_getElem? (i := 287) (by decide +kernel), List.mem_of_getElem? (i := 288) (by decide +kernel)⟩
theorem lw_p3 : lw_okq (⟨"BlinkMesh$Mesh", "blink", "(I)V"⟩, 15) := ⟨⟨by decide +kernel, by decide +kernel⟩, List.mem_of_getElem? (i := 18) (by decide +kernel), List.mem_of_getElem? (i := 291) (by decide +kernel), List.mem_of_getElem? (i := 292) (by decide +kernel)⟩
theorem lw_p4 : lw_okq (⟨"BlinkMesh$Mesh", "pushFrom", "(II)I"⟩, 15) := ⟨⟨by decide +kernel, by decide +kernel⟩, List.mem_of_getElem? (i := 18) (by decide +kernel), List.mem_of_getElem? (i := 295) (by decide +kernel), List.mem_of_getElem? (i := 296) (by decide +kernel)⟩
theorem lw_p5 : lw_okq (⟨"BlinkMesh$Mesh", "pushAll", "(I)I"⟩, 15) := ⟨⟨by decide +kernel, by decide +kernel⟩, List.mem_of_getElem? (i := 18) (by decide +kernel), List.mem_of_getElem? (i := 299) (by decide +kernel), List.mem_of_getElem? (i := 300) (by decide +kernel)⟩
theorem lw_p6 : lw_okq (⟨"BlinkMesh$Mesh", "account", "(I)V"⟩, 15) := ⟨⟨by decide +kernel, by decide +kernel⟩, List.mem_of_getElem? (i := 18) (by decide +kernel), List.mem_of_getElem? (i := 303) (by decide +kernel), List.mem_of_getElem? (i := 304) (by decide +kernel)⟩
theorem lw_p7 : lw_okq (⟨"BlinkMesh$MeshText", "parseLamps", "()Z"⟩, 7) := ⟨⟨by decide +kernel, by decide +kernel⟩, List.mem_of_getElem? (i := 96) (by decide +kernel), List.mem_of_getElem? (i := 342) (by decide +kernel), List.mem_of_getElem? (i := 343) (by decide +kernel)⟩
theorem lw_p8 : lw_okq (⟨"BlinkMesh$MeshText", "parseLamp", "(I)Z"⟩, 7) := ⟨⟨by decide +kernel, by decide +kernel⟩, List.mem_of_getElem? (i := 96) (by decide +kernel), List.mem_of_getElem? (i := 346) (by decide +kernel), List.mem_of_getElem? (i := 347) (by decide +kernel)⟩
theorem lw_p9 : lw_okq (⟨"BlinkMesh$MeshText", "parseNumber", "(II)I"⟩, 7) := ⟨⟨by decide +kernel, by decide +kernel⟩, List.mem_of_getElem? (i := 96) (by decide +kernel), List.mem_of_getElem? (i := 350) (by decide +kernel), List.mem_of_getElem? (i := 351) (by decide +kernel)⟩
theorem lw_p10 : lw_okq (⟨"BlinkMesh$MeshText", "current", "()I"⟩, 7) := ⟨⟨by decide +kernel, by decide +kernel⟩, List.mem_of_getElem? (i := 96) (by decide +kernel), List.mem_of_getElem? (i := 354) (by decide +kernel), List.mem_of_getElem? (i := 355) (by decide +kernel)⟩
theorem lw_p11 : lw_okq (⟨"BlinkMesh$MeshText", "skip", "(C)Z"⟩, 7) := ⟨⟨by decide +kernel, by decide +kernel⟩, List.mem_of_getElem? (i := 96) (by decide +kernel), List.mem_of_getElem? (i := 361) (by decide +kernel), List.mem_of_getElem? (i := 362) (by decide +kernel)⟩
theorem lw_p12 : lw_okq (⟨"BlinkMesh$MeshText", "parseLinks", "()Z"⟩, 7) := ⟨⟨by decide +kernel, by decide +kernel⟩, List.mem_of_getElem? (i := 96) (by decide +kernel), List.mem_of_getElem? (i := 365) (by decide +kernel), List.mem_of_getElem? (i := 366) (by decide +kernel)⟩
theorem lw_p13 : lw_okq (⟨"BlinkMesh$MeshText", "parseLink", "()Z"⟩, 7) := ⟨⟨by decide +kernel, by decide +kernel⟩, List.mem_of_getElem? (i := 96) (by decide +kernel), List.mem_of_getElem? (i := 369) (by decide +kernel), List.mem_of_getElem? (i := 370) (by decide +kernel)⟩
theorem lw_p14 : lw_okq (⟨"BlinkMesh$MeshText", "parseLetter", "(I)I"⟩, 7) := ⟨⟨by decide +kernel, by decide +kernel⟩, List.mem_of_getElem? (i := 96) (by decide +kernel), List.mem_of_getElem? (i := 373) (by decide +kernel), List.mem_of_getElem? (i := 374) (by decide +kernel)⟩
theorem lw_p15 : lw_okq (⟨"BlinkMesh$Mesh", "pieceOf", "(I)I"⟩, 15) := ⟨⟨by decide +kernel, by decide +kernel⟩, List.mem_of_getElem? (i := 18) (by decide +kernel), List.mem_of_getElem? (i := 427) (by decide +kernel), List.mem_of_getElem? (i := 428) (by decide +kernel)⟩
def lw_privs_1 : List (MethodName × Nat) := [(⟨"BlinkMesh$History", "dropOldest", "()V"⟩, 2), (⟨"BlinkMesh$Mesh", "fullPhase", "()I"⟩, 15), (⟨"BlinkMesh$Mesh", "grow", "()I"⟩, 15), (⟨"BlinkMesh$Mesh", "blink", "(I)V"⟩, 15), (⟨"BlinkMesh$Mesh", "pushFrom", "(II)I"⟩, 15), (⟨"BlinkMesh$Mesh", "pushAll", "(I)I"⟩, 15), (⟨"BlinkMesh$Mesh", "account", "(I)V"⟩, 15), (⟨"BlinkMesh$MeshText", "parseLamps", "()Z"⟩, 7), (⟨"BlinkMesh$MeshText", "parseLamp", "(I)Z"⟩, 7), (⟨"BlinkMesh$MeshText", "parseNumber", "(II)I"⟩, 7), (⟨"BlinkMesh$MeshText", "current", "()I"⟩, 7), (⟨"BlinkMesh$MeshText", "skip", "(C)Z"⟩, 7), (⟨"BlinkMesh$MeshText", "parseLinks", "()Z"⟩, 7), (⟨"BlinkMesh$MeshText", "parseLink", "()Z"⟩, 7), (⟨"BlinkMesh$MeshText", "parseLetter", "(I)I"⟩, 7), (⟨"BlinkMesh$Mesh", "pieceOf", "(I)I"⟩, 15)]
theorem lw_r1 : ∀ q ∈ lw_privs_1, lw_okq q := List.forall_mem_cons.mpr ⟨lw_p0, List.forall_mem_cons.mpr ⟨lw_p1, List.forall_mem_cons.mpr ⟨lw_p2, List.forall_mem_cons.mpr ⟨lw_p3, List.forall_mem_cons.mpr ⟨lw_p4, List.forall_mem_cons.mpr ⟨lw_p5, List.forall_mem_cons.mpr ⟨lw_p6, List.forall_mem_cons.mpr ⟨lw_p7, List.forall_mem_cons.mpr ⟨lw_p8, List.forall_mem_cons.mpr ⟨lw_p9, List.forall_mem_cons.mpr ⟨lw_p10, List.forall_mem_cons.mpr ⟨lw_p11, List.forall_mem_cons.mpr ⟨lw_p12, List.forall_mem_cons.mpr ⟨lw_p13, List.forall_mem_cons.mpr ⟨lw_p14, List.forall_mem_cons.mpr ⟨lw_p15, fun _ h => absurd h List.not_mem_nil⟩⟩⟩⟩⟩⟩⟩⟩⟩⟩⟩⟩⟩⟩⟩⟩
theorem lw_p16 : lw_okq (⟨"BlinkMesh$Mesh", "neighbours", "(I)I"⟩, 15) := ⟨⟨by decide +kernel, by decide +kernel⟩, List.mem_of_getElem? (i := 18) (by decide +kernel), List.mem_of_getElem? (i := 431) (by decide +kernel), List.mem_of_getElem? (i := 432) (by decide +kernel)⟩
theorem lw_p17 : lw_okq (⟨"BlinkMesh$Mesh", "agreeing", "(I)I"⟩, 15) := ⟨⟨by decide +kernel, by decide +kernel⟩, List.mem_of_getElem? (i := 18) (by decide +kernel), List.mem_of_getElem? (i := 435) (by decide +kernel), List.mem_of_getElem? (i := 436) (by decide +kernel)⟩
theorem lw_p18 : lw_okq (⟨"BlinkMesh", "trialTogetherIn", "()I"⟩, 6) := ⟨⟨by decide +kernel, by decide +kernel⟩, List.mem_of_getElem? (i := 10) (by decide +kernel), List.mem_of_getElem? (i := 459) (by decide +kernel), List.mem_of_getElem? (i := 460) (by decide +kernel)⟩
theorem lw_p19 : lw_okq (⟨"BlinkMesh", "spreadWith", "(II)I"⟩, 6) := ⟨⟨by decide +kernel, by decide +kernel⟩, List.mem_of_getElem? (i := 10) (by decide +kernel), List.mem_of_getElem? (i := 509) (by decide +kernel), List.mem_of_getElem? (i := 510) (by decide +kernel)⟩
theorem lw_p20 : lw_okq (⟨"BlinkMeshModel", "of", "(II)I"⟩, 13) := ⟨⟨by decide +kernel, by decide +kernel⟩, List.mem_of_getElem? (i := 525) (by decide +kernel), List.mem_of_getElem? (i := 578) (by decide +kernel), List.mem_of_getElem? (i := 579) (by decide +kernel)⟩
theorem lw_p21 : lw_okq (⟨"BlinkMeshModel", "record", "()V"⟩, 13) := ⟨⟨by decide +kernel, by decide +kernel⟩, List.mem_of_getElem? (i := 525) (by decide +kernel), List.mem_of_getElem? (i := 582) (by decide +kernel), List.mem_of_getElem? (i := 583) (by decide +kernel)⟩
theorem lw_p22 : lw_okq (⟨"BlinkMeshModel", "lay", "(III)V"⟩, 13) := ⟨⟨by decide +kernel, by decide +kernel⟩, List.mem_of_getElem? (i := 525) (by decide +kernel), List.mem_of_getElem? (i := 589) (by decide +kernel), List.mem_of_getElem? (i := 590) (by decide +kernel)⟩
theorem lw_p23 : lw_okq (⟨"BlinkMeshModel", "put", "(III)V"⟩, 13) := ⟨⟨by decide +kernel, by decide +kernel⟩, List.mem_of_getElem? (i := 525) (by decide +kernel), List.mem_of_getElem? (i := 593) (by decide +kernel), List.mem_of_getElem? (i := 594) (by decide +kernel)⟩
theorem lw_p24 : lw_okq (⟨"BlinkMeshModel", "round", "()I"⟩, 13) := ⟨⟨by decide +kernel, by decide +kernel⟩, List.mem_of_getElem? (i := 525) (by decide +kernel), List.mem_of_getElem? (i := 597) (by decide +kernel), List.mem_of_getElem? (i := 598) (by decide +kernel)⟩
theorem lw_p25 : lw_okq (⟨"BlinkMeshModel", "isLamp", "(I)Z"⟩, 13) := ⟨⟨by decide +kernel, by decide +kernel⟩, List.mem_of_getElem? (i := 525) (by decide +kernel), List.mem_of_getElem? (i := 605) (by decide +kernel), List.mem_of_getElem? (i := 606) (by decide +kernel)⟩
theorem lw_p26 : lw_okq (⟨"BlinkMeshModel", "isOn", "(I)Z"⟩, 13) := ⟨⟨by decide +kernel, by decide +kernel⟩, List.mem_of_getElem? (i := 525) (by decide +kernel), List.mem_of_getElem? (i := 616) (by decide +kernel), List.mem_of_getElem? (i := 617) (by decide +kernel)⟩
theorem lw_p27 : lw_okq (⟨"BlinkMeshModel", "lampsOn", "()I"⟩, 13) := ⟨⟨by decide +kernel, by decide +kernel⟩, List.mem_of_getElem? (i := 525) (by decide +kernel), List.mem_of_getElem? (i := 620) (by decide +kernel), List.mem_of_getElem? (i := 621) (by decide +kernel)⟩
theorem lw_p28 : lw_okq (⟨"BlinkMeshModel", "setOf", "(I)I"⟩, 13) := ⟨⟨by decide +kernel, by decide +kernel⟩, List.mem_of_getElem? (i := 525) (by decide +kernel), List.mem_of_getElem? (i := 624) (by decide +kernel), List.mem_of_getElem? (i := 625) (by decide +kernel)⟩
theorem lw_p29 : lw_okq (⟨"BlinkMeshModel", "connect", "(IIZ)V"⟩, 13) := ⟨⟨by decide +kernel, by decide +kernel⟩, List.mem_of_getElem? (i := 525) (by decide +kernel), List.mem_of_getElem? (i := 635) (by decide +kernel), List.mem_of_getElem? (i := 636) (by decide +kernel)⟩
theorem lw_p30 : lw_okq (⟨"BlinkMeshModel", "links", "()I"⟩, 13) := ⟨⟨by decide +kernel, by decide +kernel⟩, List.mem_of_getElem? (i := 525) (by decide +kernel), List.mem_of_getElem? (i := 639) (by decide +kernel), List.mem_of_getElem? (i := 640) (by decide +kernel)⟩
theorem lw_p31 : lw_okq (⟨"BlinkMeshModel", "goOn", "(I)V"⟩, 13) := ⟨⟨by decide +kernel, by decide +kernel⟩, List.mem_of_getElem? (i := 525) (by decide +kernel), List.mem_of_getElem? (i := 656) (by decide +kernel), List.mem_of_getElem? (i := 657) (by decide +kernel)⟩
def lw_privs_2 : List (MethodName × Nat) := [(⟨"BlinkMesh$Mesh", "neighbours", "(I)I"⟩, 15), (⟨"BlinkMesh$Mesh", "agreeing", "(I)I"⟩, 15), (⟨"BlinkMesh", "trialTogetherIn", "()I"⟩, 6), (⟨"BlinkMesh", "spreadWith", "(II)I"⟩, 6), (⟨"BlinkMeshModel", "of", "(II)I"⟩, 13), (⟨"BlinkMeshModel", "record", "()V"⟩, 13), (⟨"BlinkMeshModel", "lay", "(III)V"⟩, 13), (⟨"BlinkMeshModel", "put", "(III)V"⟩, 13), (⟨"BlinkMeshModel", "round", "()I"⟩, 13), (⟨"BlinkMeshModel", "isLamp", "(I)Z"⟩, 13), (⟨"BlinkMeshModel", "isOn", "(I)Z"⟩, 13), (⟨"BlinkMeshModel", "lampsOn", "()I"⟩, 13), (⟨"BlinkMeshModel", "setOf", "(I)I"⟩, 13), (⟨"BlinkMeshModel", "connect", "(IIZ)V"⟩, 13), (⟨"BlinkMeshModel", "links", "()I"⟩, 13), (⟨"BlinkMeshModel", "goOn", "(I)V"⟩, 13)]
theorem lw_r2 : ∀ q ∈ lw_privs_2, lw_okq q := List.forall_mem_cons.mpr ⟨lw_p16, List.forall_mem_cons.mpr ⟨lw_p17, List.forall_mem_cons.mpr ⟨lw_p18, List.forall_mem_cons.mpr ⟨lw_p19, List.forall_mem_cons.mpr ⟨lw_p20, List.forall_mem_cons.mpr ⟨lw_p21, List.forall_mem_cons.mpr ⟨lw_p22, List.forall_mem_cons.mpr ⟨lw_p23, List.forall_mem_cons.mpr ⟨lw_p24, List.forall_mem_cons.mpr ⟨lw_p25, List.forall_mem_cons.mpr ⟨lw_p26, List.forall_mem_cons.mpr ⟨lw_p27, List.forall_mem_cons.mpr ⟨lw_p28, List.forall_mem_cons.mpr ⟨lw_p29, List.forall_mem_cons.mpr ⟨lw_p30, List.forall_mem_cons.mpr ⟨lw_p31, fun _ h => absurd h List.not_mem_nil⟩⟩⟩⟩⟩⟩⟩⟩⟩⟩⟩⟩⟩⟩⟩⟩
theorem lw_p32 : lw_okq (⟨"BlinkMeshModel", "tick", "()I"⟩, 13) := ⟨⟨by decide +kernel, by decide +kernel⟩, List.mem_of_getElem? (i := 525) (by decide +kernel), List.mem_of_getElem? (i := 660) (by decide +kernel), List.mem_of_getElem? (i := 661) (by decide +kernel)⟩
theorem lw_p33 : lw_okq (⟨"BlinkMeshModel", "grow", "()V"⟩, 13) := ⟨⟨by decide +kernel, by decide +kernel⟩, List.mem_of_getElem? (i := 525) (by decide +kernel), List.mem_of_getElem? (i := 664) (by decide +kernel), List.mem_of_getElem? (i := 665) (by decide +kernel)⟩
theorem lw_p34 : lw_okq (⟨"BlinkMeshModel", "blink", "(I)I"⟩, 13) := ⟨⟨by decide +kernel, by decide +kernel⟩, List.mem_of_getElem? (i := 525) (by decide +kernel), List.mem_of_getElem? (i := 668) (by decide +kernel), List.mem_of_getElem? (i := 669) (by decide +kernel)⟩
theorem lw_p35 : lw_okq (⟨"BlinkMeshModel", "push", "(II)I"⟩, 13) := ⟨⟨by decide +kernel, by decide +kernel⟩, List.mem_of_getElem? (i := 525) (by decide +kernel), List.mem_of_getElem? (i := 672) (by decide +kernel), List.mem_of_getElem? (i := 673) (by decide +kernel)⟩
theorem lw_p36 : lw_okq (⟨"BlinkMeshModel", "readText", "()Z"⟩, 13) := ⟨⟨by decide +kernel, by decide +kernel⟩, List.mem_of_getElem? (i := 525) (by decide +kernel), List.mem_of_getElem? (i := 688) (by decide +kernel), List.mem_of_getElem? (i := 689) (by decide +kernel)⟩
theorem lw_p37 : lw_okq (⟨"BlinkMeshModel", "readLamp", "()Z"⟩, 13) := ⟨⟨by decide +kernel, by decide +kernel⟩, List.mem_of_getElem? (i := 525) (by decide +kernel), List.mem_of_getElem? (i := 692) (by decide +kernel), List.mem_of_getElem? (i := 693) (by decide +kernel)⟩
theorem lw_p38 : lw_okq (⟨"BlinkMeshModel", "readNumber", "(II)I"⟩, 13) := ⟨⟨by decide +kernel, by decide +kernel⟩, List.mem_of_getElem? (i := 525) (by decide +kernel), List.mem_of_getElem? (i := 696) (by decide +kernel), List.mem_of_getElem? (i := 697) (by decide +kernel)⟩
theorem lw_p39 : lw_okq (⟨"BlinkMeshModel", "isNext", "(II)Z"⟩, 13) := ⟨⟨by decide +kernel, by decide +kernel⟩, List.mem_of_getElem? (i := 525) (by decide +kernel), List.mem_of_getElem? (i := 700) (by decide +kernel), List.mem_of_getElem? (i := 701) (by decide +kernel)⟩
theorem lw_p40 : lw_okq (⟨"BlinkMeshModel", "takes", "(I)Z"⟩, 13) := ⟨⟨by decide +kernel, by decide +kernel⟩, List.mem_of_getElem? (i := 525) (by decide +kernel), List.mem_of_getElem? (i := 707) (by decide +kernel), List.mem_of_getElem? (i := 708) (by decide +kernel)⟩
theorem lw_p41 : lw_okq (⟨"BlinkMeshModel", "readLink", "()Z"⟩, 13) := ⟨⟨by decide +kernel, by decide +kernel⟩, List.mem_of_getElem? (i := 525) (by decide +kernel), List.mem_of_getElem? (i := 711) (by decide +kernel), List.mem_of_getElem? (i := 712) (by decide +kernel)⟩
theorem lw_p42 : lw_okq (⟨"BlinkMeshModel", "pieceOf", "(I)I"⟩, 13) := ⟨⟨by decide +kernel, by decide +kernel⟩, List.mem_of_getElem? (i := 525) (by decide +kernel), List.mem_of_getElem? (i := 731) (by decide +kernel), List.mem_of_getElem? (i := 732) (by decide +kernel)⟩
theorem lw_p43 : lw_okq (⟨"BlinkMeshModel", "agreeing", "(I)I"⟩, 13) := ⟨⟨by decide +kernel, by decide +kernel⟩, List.mem_of_getElem? (i := 525) (by decide +kernel), List.mem_of_getElem? (i := 735) (by decide +kernel), List.mem_of_getElem? (i := 736) (by decide +kernel)⟩
theorem lw_p44 : lw_okq (⟨"BlinkMeshModel", "distance", "(II)I"⟩, 13) := ⟨⟨by decide +kernel, by decide +kernel⟩, List.mem_of_getElem? (i := 525) (by decide +kernel), List.mem_of_getElem? (i := 743) (by decide +kernel), List.mem_of_getElem? (i := 744) (by decide +kernel)⟩
theorem lw_p45 : lw_okq (⟨"BlinkMeshModel", "untilTogether", "()I"⟩, 13) := ⟨⟨by decide +kernel, by decide +kernel⟩, List.mem_of_getElem? (i := 525) (by decide +kernel), List.mem_of_getElem? (i := 755) (by decide +kernel), List.mem_of_getElem? (i := 756) (by decide +kernel)⟩
theorem lw_p46 : lw_okq (⟨"BlinkMeshModel", "isTogether", "()Z"⟩, 13) := ⟨⟨by decide +kernel, by decide +kernel⟩, List.mem_of_getElem? (i := 525) (by decide +kernel), List.mem_of_getElem? (i := 759) (by decide +kernel), List.mem_of_getElem? (i := 760) (by decide +kernel)⟩
theorem lw_p47 : lw_okq (⟨"BlinkMeshModel", "greatestDistance", "()I"⟩, 13) := ⟨⟨by decide +kernel, by decide +kernel⟩, List.mem_of_getElem? (i := 525) (by decide +kernel), List.mem_of_getElem? (i := 763) (by decide +kernel), List.mem_of_getElem? (i := 764) (by decide +kernel)⟩
def lw_privs_3 : List (MethodName × Nat) := [(⟨"BlinkMeshModel", "tick", "()I"⟩, 13), (⟨"BlinkMeshModel", "grow", "()V"⟩, 13), (⟨"BlinkMeshModel", "blink", "(I)I"⟩, 13), (⟨"BlinkMeshModel", "push", "(II)I"⟩, 13), (⟨"BlinkMeshModel", "readText", "()Z"⟩, 13), (⟨"BlinkMeshModel", "readLamp", "()Z"⟩, 13), (⟨"BlinkMeshModel", "readNumber", "(II)I"⟩, 13), (⟨"BlinkMeshModel", "isNext", "(II)Z"⟩, 13), (⟨"BlinkMeshModel", "takes", "(I)Z"⟩, 13), (⟨"BlinkMeshModel", "readLink", "()Z"⟩, 13), (⟨"BlinkMeshModel", "pieceOf", "(I)I"⟩, 13), (⟨"BlinkMeshModel", "agreeing", "(I)I"⟩, 13), (⟨"BlinkMeshModel", "distance", "(II)I"⟩, 13), (⟨"BlinkMeshModel", "untilTogether", "()I"⟩, 13), (⟨"BlinkMeshModel", "isTogether", "()Z"⟩, 13), (⟨"BlinkMeshModel", "greatestDistance", "()I"⟩, 13)]
theorem lw_r3 : ∀ q ∈ lw_privs_3, lw_okq q := List.forall_mem_cons.mpr ⟨lw_p32, List.forall_mem_cons.mpr ⟨lw_p33, List.forall_mem_cons.mpr ⟨lw_p34, List.forall_mem_cons.mpr ⟨lw_p35, List.forall_mem_cons.mpr ⟨lw_p36, List.forall_mem_cons.mpr ⟨lw_p37, List.forall_mem_cons.mpr ⟨lw_p38, List.forall_mem_cons.mpr ⟨lw_p39, List.forall_mem_cons.mpr ⟨lw_p40, List.forall_mem_cons.mpr ⟨lw_p41, List.forall_mem_cons.mpr ⟨lw_p42, List.forall_mem_cons.mpr ⟨lw_p43, List.forall_mem_cons.mpr ⟨lw_p44, List.forall_mem_cons.mpr ⟨lw_p45, List.forall_mem_cons.mpr ⟨lw_p46, List.forall_mem_cons.mpr ⟨lw_p47, fun _ h => absurd h List.not_mem_nil⟩⟩⟩⟩⟩⟩⟩⟩⟩⟩⟩⟩⟩⟩⟩⟩
theorem lw_p48 : lw_okq (⟨"BlinkMeshModel", "pieces", "()I"⟩, 13) := ⟨⟨by decide +kernel, by decide +kernel⟩, List.mem_of_getElem? (i := 525) (by decide +kernel), List.mem_of_getElem? (i := 771) (by decide +kernel), List.mem_of_getElem? (i := 772) (by decide +kernel)⟩
theorem lw_p49 : lw_okq (⟨"BlinkMeshModel", "areRatesUnlike", "()Z"⟩, 13) := ⟨⟨by decide +kernel, by decide +kernel⟩, List.mem_of_getElem? (i := 525) (by decide +kernel), List.mem_of_getElem? (i := 775) (by decide +kernel), List.mem_of_getElem? (i := 776) (by decide +kernel)⟩
def lw_privs_4 : List (MethodName × Nat) := [(⟨"BlinkMeshModel", "pieces", "()I"⟩, 13), (⟨"BlinkMeshModel", "areRatesUnlike", "()Z"⟩, 13)]
theorem lw_r4 : ∀ q ∈ lw_privs_4, lw_okq q := List.forall_mem_cons.mpr ⟨lw_p48, List.forall_mem_cons.mpr ⟨lw_p49, fun _ h => absurd h List.not_mem_nil⟩⟩
def lw_privs : List (MethodName × Nat) := lw_privs_1 ++ (lw_privs_2 ++ (lw_privs_3 ++ (lw_privs_4)))
def lw_tbl : List Cond := k2_sels lw_privs ++ tables_1
theorem lw_privs_ok : ∀ q ∈ lw_privs, lw_okq q := by
  show ∀ q ∈ lw_privs_1 ++ (lw_privs_2 ++ (lw_privs_3 ++ (lw_privs_4))), lw_okq q
  exact List.forall_mem_append.mpr ⟨lw_r1, List.forall_mem_append.mpr ⟨lw_r2, List.forall_mem_append.mpr ⟨lw_r3, lw_r4⟩⟩⟩
-- ===== end of PART A; then your names; then what follows =====
theorem goodIn_r {big : List Cond} (ws : List Cond) (ps : List Nat) (hp : ws = ps.filterMap (fun i => big[i]?)) (h : ws.all goodWord = true) : GoodIn big ws := by
  intro w hw
  have h1 := List.all_eq_true.mp h w hw
  rw [hp] at hw
  obtain ⟨i, -, hi⟩ := List.mem_filterMap.mp hw
  have hm : w ∈ big := by first | exact List.mem_of_getElem? hi | exact List.getElem?_mem hi
  exact ⟨hm, good_of_word h1⟩
theorem goodIn_app {big a b : List Cond} (ha : GoodIn big a) (hb : GoodIn big b) : GoodIn big (a ++ b) := fun w h => (List.mem_append.mp h).elim (ha w) (hb w)
theorem goodIn_ca {big a b : List Cond} {c : Cond} (ha : GoodIn big (c :: a)) (hb : GoodIn big b) : GoodIn big (c :: (a ++ b)) := fun w h => (List.mem_cons.mp h).elim (fun e => ha w (List.mem_cons.mpr (Or.inl e))) (fun h => (List.mem_append.mp h).elim (fun h => ha w (List.mem_cons.mpr (Or.inr h))) (hb w))
theorem goodIn_sub {big ws : List Cond} (hm : ∀ w ∈ ws, w ∈ big) (h : ws.all goodWord = true) : GoodIn big ws := fun w hw => ⟨hm w hw, good_of_word (List.all_eq_true.mp h w hw)⟩
def RX0 : String := "BlinkMesh$History"
def TX0 : u_T := fun k => match k with
  | 0 => ("BlinkMesh$History", "states", "[LBlinkMesh$Mesh;", true)
  | _ => ("BlinkMesh$History", "kept", "I", false)
def tyX0 : Nat → FieldType := fun k => match k with
  | 0 => .array (.object "BlinkMesh$Mesh")
  | _ => .int
theorem nmX0 : ∀ a, a < 2 → ∀ b, b < 2 → a ≠ b → (TX0 a).2.1 ≠ (TX0 b).2.1 := by decide +kernel
theorem tyX0_ok : ∀ k, k < 2 → parseFieldDescriptor (TX0 k).2.2.1 = some (tyX0 k) := by decide +kernel
abbrev cX0_init : ByteArray := prog_2_method_1_code
def yX0_init : MethodName := ⟨RX0, "<init>", "()V"⟩
abbrev cX0_size : ByteArray := prog_2_method_2_code
def yX0_size : MethodName := ⟨RX0, "size", "()I"⟩
abbrev cX0_remember : ByteArray := prog_2_method_3_code
def yX0_remember : MethodName := ⟨RX0, "remember", "(LBlinkMesh$Mesh;)V"⟩
abbrev cX0_dropOldest : ByteArray := prog_2_method_4_code
def yX0_dropOldest : MethodName := ⟨RX0, "dropOldest", "()V"⟩
abbrev cX0_takeBack : ByteArray := prog_2_method_5_code
def yX0_takeBack : MethodName := ⟨RX0, "takeBack", "(LBlinkMesh$Mesh;)V"⟩
def RX1 : String := "BlinkMesh$Mesh"
def TX1 : u_T := fun k => match k with
  | 0 => ("BlinkMesh$Mesh", "phase", "[I", true)
  | 1 => ("BlinkMesh$Mesh", "rate", "[I", true)
  | 2 => ("BlinkMesh$Mesh", "deaf", "[I", true)
  | 3 => ("BlinkMesh$Mesh", "linked", "[I", true)
  | 4 => ("BlinkMesh$Mesh", "blinks", "[I", true)
  | 5 => ("BlinkMesh$Mesh", "latest", "[I", true)
  | 6 => ("BlinkMesh$Mesh", "pushes", "[I", true)
  | 7 => ("BlinkMesh$Mesh", "settings", "[I", true)
  | 8 => ("BlinkMesh$Mesh", "there", "I", false)
  | 9 => ("BlinkMesh$Mesh", "on", "I", false)
  | 10 => ("BlinkMesh$Mesh", "tick", "I", false)
  | 11 => ("BlinkMesh$Mesh", "blinkCount", "I", false)
  | 12 => ("BlinkMesh$Mesh", "pushCount", "I", false)
  | 13 => ("BlinkMesh$Mesh", "sharedTicks", "I", false)
  | _ => ("BlinkMesh$Mesh", "mostTogether", "I", false)
def tyX1 : Nat → FieldType := fun k => match k with
  | 0 => .array .int
  | 1 => .array .int
  | 2 => .array .int
  | 3 => .array .int
  | 4 => .array .int
  | 5 => .array .int
  | 6 => .array .int
  | 7 => .array .int
  | 8 => .int
  | 9 => .int
  | 10 => .int
  | 11 => .int
  | 12 => .int
  | 13 => .int
  | _ => .int
theorem nmX1 : ∀ a, a < 15 → ∀ b, b < 15 → a ≠ b → (TX1 a).2.1 ≠ (TX1 b).2.1 := by decide +kernel
theorem tyX1_ok : ∀ k, k < 15 → parseFieldDescriptor (TX1 k).2.2.1 = some (tyX1 k) := by decide +kernel
abbrev cX1_init : ByteArray := prog_3_method_1_code
def yX1_init : MethodName := ⟨RX1, "<init>", "()V"⟩
abbrev cX1_copyFrom : ByteArray := prog_3_method_2_code
def yX1_copyFrom : MethodName := ⟨RX1, "copyFrom", "(LBlinkMesh$Mesh;)V"⟩
abbrev cX1_has : ByteArray := prog_3_method_3_code
def yX1_has : MethodName := ⟨RX1, "has", "(I)Z"⟩
abbrev cX1_isOn : ByteArray := prog_3_method_4_code
def yX1_isOn : MethodName := ⟨RX1, "isOn", "(I)Z"⟩
abbrev cX1_isLinked : ByteArray := prog_3_method_5_code
def yX1_isLinked : MethodName := ⟨RX1, "isLinked", "(II)Z"⟩
abbrev cX1_couldLink : ByteArray := prog_3_method_6_code
def yX1_couldLink : MethodName := ⟨RX1, "couldLink", "(II)Z"⟩
abbrev cX1_isWholePhase : ByteArray := prog_3_method_7_code
def yX1_isWholePhase : MethodName := ⟨RX1, "isWholePhase", "(I)Z"⟩
abbrev cX1_setting : ByteArray := prog_3_method_8_code
def yX1_setting : MethodName := ⟨RX1, "setting", "(I)I"⟩
abbrev cX1_tickNumber : ByteArray := prog_3_method_9_code
def yX1_tickNumber : MethodName := ⟨RX1, "tickNumber", "()I"⟩
abbrev cX1_allBlinks : ByteArray := prog_3_method_10_code
def yX1_allBlinks : MethodName := ⟨RX1, "allBlinks", "()I"⟩
abbrev cX1_lamps : ByteArray := prog_3_method_11_code
def yX1_lamps : MethodName := ⟨RX1, "lamps", "()I"⟩
abbrev cX1_lampsOn : ByteArray := prog_3_method_12_code
def yX1_lampsOn : MethodName := ⟨RX1, "lampsOn", "()I"⟩
abbrev cX1_links : ByteArray := prog_3_method_13_code
def yX1_links : MethodName := ⟨RX1, "links", "()I"⟩
abbrev cX1_freeNumber : ByteArray := prog_3_method_14_code
def yX1_freeNumber : MethodName := ⟨RX1, "freeNumber", "()I"⟩
abbrev cX1_place : ByteArray := prog_3_method_15_code
def yX1_place : MethodName := ⟨RX1, "place", "(III)V"⟩
abbrev cX1_remove : ByteArray := prog_3_method_16_code
def yX1_remove : MethodName := ⟨RX1, "remove", "(I)I"⟩
abbrev cX1_removeAll : ByteArray := prog_3_method_17_code
def yX1_removeAll : MethodName := ⟨RX1, "removeAll", "()V"⟩
abbrev cX1_switchTo : ByteArray := prog_3_method_18_code
def yX1_switchTo : MethodName := ⟨RX1, "switchTo", "(IZ)V"⟩
abbrev cX1_changeLink : ByteArray := prog_3_method_19_code
def yX1_changeLink : MethodName := ⟨RX1, "changeLink", "(IIZ)V"⟩
abbrev cX1_retune : ByteArray := prog_3_method_20_code
def yX1_retune : MethodName := ⟨RX1, "retune", "(III)I"⟩
abbrev cX1_changeSetting : ByteArray := prog_3_method_21_code
def yX1_changeSetting : MethodName := ⟨RX1, "changeSetting", "(II)I"⟩
abbrev cX1_fitPhases : ByteArray := prog_3_method_22_code
def yX1_fitPhases : MethodName := ⟨RX1, "fitPhases", "()V"⟩
abbrev cX1_fullPhase : ByteArray := prog_3_method_23_code
def yX1_fullPhase : MethodName := ⟨RX1, "fullPhase", "()I"⟩
abbrev cX1_tickOften : ByteArray := prog_3_method_24_code
def yX1_tickOften : MethodName := ⟨RX1, "tickOften", "(I)V"⟩
abbrev cX1_tickOnce : ByteArray := prog_3_method_25_code
def yX1_tickOnce : MethodName := ⟨RX1, "tickOnce", "()I"⟩
abbrev cX1_grow : ByteArray := prog_3_method_26_code
def yX1_grow : MethodName := ⟨RX1, "grow", "()I"⟩
abbrev cX1_blink : ByteArray := prog_3_method_27_code
def yX1_blink : MethodName := ⟨RX1, "blink", "(I)V"⟩
abbrev cX1_pushFrom : ByteArray := prog_3_method_28_code
def yX1_pushFrom : MethodName := ⟨RX1, "pushFrom", "(II)I"⟩
abbrev cX1_pushAll : ByteArray := prog_3_method_29_code
def yX1_pushAll : MethodName := ⟨RX1, "pushAll", "(I)I"⟩
abbrev cX1_account : ByteArray := prog_3_method_30_code
def yX1_account : MethodName := ⟨RX1, "account", "(I)V"⟩
abbrev cX1_distance : ByteArray := prog_3_method_31_code
def yX1_distance : MethodName := ⟨RX1, "distance", "(II)I"⟩
abbrev cX1_greatestDistance : ByteArray := prog_3_method_32_code
def yX1_greatestDistance : MethodName := ⟨RX1, "greatestDistance", "()I"⟩
abbrev cX1_isTogether : ByteArray := prog_3_method_33_code
def yX1_isTogether : MethodName := ⟨RX1, "isTogether", "()Z"⟩
abbrev cX1_hasUnlikeRates : ByteArray := prog_3_method_34_code
def yX1_hasUnlikeRates : MethodName := ⟨RX1, "hasUnlikeRates", "()Z"⟩
abbrev cX1_pieceOf : ByteArray := prog_3_method_35_code
def yX1_pieceOf : MethodName := ⟨RX1, "pieceOf", "(I)I"⟩
abbrev cX1_neighbours : ByteArray := prog_3_method_36_code
def yX1_neighbours : MethodName := ⟨RX1, "neighbours", "(I)I"⟩
abbrev cX1_pieces : ByteArray := prog_3_method_37_code
def yX1_pieces : MethodName := ⟨RX1, "pieces", "()I"⟩
abbrev cX1_agreeing : ByteArray := prog_3_method_38_code
def yX1_agreeing : MethodName := ⟨RX1, "agreeing", "(I)I"⟩
abbrev cX1_lampWithMostLinks : ByteArray := prog_3_method_39_code
def yX1_lampWithMostLinks : MethodName := ⟨RX1, "lampWithMostLinks", "()I"⟩
abbrev cX1_tellLamp : ByteArray := prog_3_method_40_code
def yX1_tellLamp : MethodName := ⟨RX1, "tellLamp", "(II)I"⟩
abbrev cX1_tellMesh : ByteArray := prog_3_method_41_code
def yX1_tellMesh : MethodName := ⟨RX1, "tellMesh", "(I)I"⟩
def RX2 : String := "BlinkMesh$MeshText"
def TX2 : u_T := fun k => match k with
  | 0 => ("BlinkMesh$MeshText", "characters", "[C", true)
  | 1 => ("BlinkMesh$MeshText", "length", "I", false)
  | 2 => ("BlinkMesh$MeshText", "place", "I", false)
  | 3 => ("BlinkMesh$MeshText", "phase", "[I", true)
  | 4 => ("BlinkMesh$MeshText", "rate", "[I", true)
  | 5 => ("BlinkMesh$MeshText", "lampCount", "I", false)
  | _ => ("BlinkMesh$MeshText", "linked", "[I", true)
def tyX2 : Nat → FieldType := fun k => match k with
  | 0 => .array .char
  | 1 => .int
  | 2 => .int
  | 3 => .array .int
  | 4 => .array .int
  | 5 => .int
  | _ => .array .int
theorem nmX2 : ∀ a, a < 7 → ∀ b, b < 7 → a ≠ b → (TX2 a).2.1 ≠ (TX2 b).2.1 := by decide +kernel
theorem tyX2_ok : ∀ k, k < 7 → parseFieldDescriptor (TX2 k).2.2.1 = some (tyX2 k) := by decide +kernel
abbrev cX2_init : ByteArray := prog_4_method_1_code
def yX2_init : MethodName := ⟨RX2, "<init>", "()V"⟩
abbrev cX2_length : ByteArray := prog_4_method_2_code
def yX2_length : MethodName := ⟨RX2, "length", "()I"⟩
abbrev cX2_fault : ByteArray := prog_4_method_3_code
def yX2_fault : MethodName := ⟨RX2, "fault", "()I"⟩
abbrev cX2_isFull : ByteArray := prog_4_method_4_code
def yX2_isFull : MethodName := ⟨RX2, "isFull", "()Z"⟩
abbrev cX2_append : ByteArray := prog_4_method_5_code
def yX2_append : MethodName := ⟨RX2, "append", "(C)V"⟩
abbrev cX2_empty : ByteArray := prog_4_method_6_code
def yX2_empty : MethodName := ⟨RX2, "empty", "()V"⟩
abbrev cX2_build : ByteArray := prog_4_method_7_code
def yX2_build : MethodName := ⟨RX2, "build", "(LBlinkMesh$Mesh;)V"⟩
abbrev cX2_parse : ByteArray := prog_4_method_8_code
def yX2_parse : MethodName := ⟨RX2, "parse", "()Z"⟩
abbrev cX2_parseLamps : ByteArray := prog_4_method_9_code
def yX2_parseLamps : MethodName := ⟨RX2, "parseLamps", "()Z"⟩
abbrev cX2_parseLamp : ByteArray := prog_4_method_10_code
def yX2_parseLamp : MethodName := ⟨RX2, "parseLamp", "(I)Z"⟩
abbrev cX2_parseNumber : ByteArray := prog_4_method_11_code
def yX2_parseNumber : MethodName := ⟨RX2, "parseNumber", "(II)I"⟩
abbrev cX2_begins : ByteArray := prog_4_method_12_code
def yX2_begins : MethodName := ⟨RX2, "begins", "(III)Z"⟩
abbrev cX2_parseLinks : ByteArray := prog_4_method_13_code
def yX2_parseLinks : MethodName := ⟨RX2, "parseLinks", "()Z"⟩
abbrev cX2_parseLink : ByteArray := prog_4_method_14_code
def yX2_parseLink : MethodName := ⟨RX2, "parseLink", "()Z"⟩
abbrev cX2_parseLetter : ByteArray := prog_4_method_15_code
def yX2_parseLetter : MethodName := ⟨RX2, "parseLetter", "(I)I"⟩
abbrev cX2_current : ByteArray := prog_4_method_16_code
def yX2_current : MethodName := ⟨RX2, "current", "()I"⟩
abbrev cX2_skip : ByteArray := prog_4_method_17_code
def yX2_skip : MethodName := ⟨RX2, "skip", "(C)Z"⟩
def RX3 : String := "BlinkMesh"
def TX3 : u_T := fun k => match k with
  | 0 => ("BlinkMesh", "mesh", "LBlinkMesh$Mesh;", true)
  | 1 => ("BlinkMesh", "trial", "LBlinkMesh$Mesh;", true)
  | 2 => ("BlinkMesh", "snapshot", "LBlinkMesh$Mesh;", true)
  | 3 => ("BlinkMesh", "hasSnapshot", "Z", false)
  | 4 => ("BlinkMesh", "history", "LBlinkMesh$History;", true)
  | _ => ("BlinkMesh", "text", "LBlinkMesh$MeshText;", true)
def tyX3 : Nat → FieldType := fun k => match k with
  | 0 => .object "BlinkMesh$Mesh"
  | 1 => .object "BlinkMesh$Mesh"
  | 2 => .object "BlinkMesh$Mesh"
  | 3 => .boolean
  | 4 => .object "BlinkMesh$History"
  | _ => .object "BlinkMesh$MeshText"
theorem nmX3 : ∀ a, a < 6 → ∀ b, b < 6 → a ≠ b → (TX3 a).2.1 ≠ (TX3 b).2.1 := by decide +kernel
theorem tyX3_ok : ∀ k, k < 6 → parseFieldDescriptor (TX3 k).2.2.1 = some (tyX3 k) := by decide +kernel
abbrev cX3_init : ByteArray := prog_1_method_1_code
def yX3_init : MethodName := ⟨RX3, "<init>", "()V"⟩
abbrev cX3_come : ByteArray := prog_1_method_2_code
def yX3_come : MethodName := ⟨RX3, "come", "(II)I"⟩
abbrev cX3_goAway : ByteArray := prog_1_method_3_code
def yX3_goAway : MethodName := ⟨RX3, "goAway", "(I)I"⟩
abbrev cX3_turn : ByteArray := prog_1_method_4_code
def yX3_turn : MethodName := ⟨RX3, "turn", "(IZ)I"⟩
abbrev cX3_link : ByteArray := prog_1_method_5_code
def yX3_link : MethodName := ⟨RX3, "link", "(IIZ)I"⟩
abbrev cX3_tune : ByteArray := prog_1_method_6_code
def yX3_tune : MethodName := ⟨RX3, "tune", "(III)I"⟩
abbrev cX3_set : ByteArray := prog_1_method_7_code
def yX3_set : MethodName := ⟨RX3, "set", "(II)I"⟩
abbrev cX3_pass : ByteArray := prog_1_method_8_code
def yX3_pass : MethodName := ⟨RX3, "pass", "(I)I"⟩
abbrev cX3_type : ByteArray := prog_1_method_9_code
def yX3_type : MethodName := ⟨RX3, "type", "(C)I"⟩
abbrev cX3_clearText : ByteArray := prog_1_method_10_code
def yX3_clearText : MethodName := ⟨RX3, "clearText", "()I"⟩
abbrev cX3_readMesh : ByteArray := prog_1_method_11_code
def yX3_readMesh : MethodName := ⟨RX3, "readMesh", "()I"⟩
abbrev cX3_undo : ByteArray := prog_1_method_12_code
def yX3_undo : MethodName := ⟨RX3, "undo", "()I"⟩
abbrev cX3_keep : ByteArray := prog_1_method_13_code
def yX3_keep : MethodName := ⟨RX3, "keep", "()I"⟩
abbrev cX3_restore : ByteArray := prog_1_method_14_code
def yX3_restore : MethodName := ⟨RX3, "restore", "()I"⟩
abbrev cX3_lamp : ByteArray := prog_1_method_15_code
def yX3_lamp : MethodName := ⟨RX3, "lamp", "(II)I"⟩
abbrev cX3_apart : ByteArray := prog_1_method_16_code
def yX3_apart : MethodName := ⟨RX3, "apart", "(II)I"⟩
abbrev cX3_next : ByteArray := prog_1_method_17_code
def yX3_next : MethodName := ⟨RX3, "next", "(I)I"⟩
abbrev cX3_togetherIn : ByteArray := prog_1_method_18_code
def yX3_togetherIn : MethodName := ⟨RX3, "togetherIn", "()I"⟩
abbrev cX3_reason : ByteArray := prog_1_method_19_code
def yX3_reason : MethodName := ⟨RX3, "reason", "()I"⟩
abbrev cX3_spread : ByteArray := prog_1_method_20_code
def yX3_spread : MethodName := ⟨RX3, "spread", "()I"⟩
abbrev cX3_ifLinked : ByteArray := prog_1_method_21_code
def yX3_ifLinked : MethodName := ⟨RX3, "ifLinked", "(II)I"⟩
abbrev cX3_hub : ByteArray := prog_1_method_22_code
def yX3_hub : MethodName := ⟨RX3, "hub", "()I"⟩
abbrev cX3_bestLink : ByteArray := prog_1_method_23_code
def yX3_bestLink : MethodName := ⟨RX3, "bestLink", "(I)I"⟩
abbrev cX3_count : ByteArray := prog_1_method_24_code
def yX3_count : MethodName := ⟨RX3, "count", "(I)I"⟩
abbrev cX3_isRate : ByteArray := prog_1_method_25_code
def yX3_isRate : MethodName := ⟨RX3, "isRate", "(I)Z"⟩
abbrev cX3_holds : ByteArray := prog_1_method_26_code
def yX3_holds : MethodName := ⟨RX3, "holds", "(II)Z"⟩
abbrev cX3_trialTogetherIn : ByteArray := prog_1_method_27_code
def yX3_trialTogetherIn : MethodName := ⟨RX3, "trialTogetherIn", "()I"⟩
abbrev cX3_spreadWith : ByteArray := prog_1_method_28_code
def yX3_spreadWith : MethodName := ⟨RX3, "spreadWith", "(II)I"⟩
def RX4 : String := "BlinkMeshModel"
def TX4 : u_T := fun k => match k with
  | 0 => ("BlinkMeshModel", "s", "[I", true)
  | 1 => ("BlinkMeshModel", "history", "[I", true)
  | 2 => ("BlinkMeshModel", "kept", "I", false)
  | 3 => ("BlinkMeshModel", "snapshot", "[I", true)
  | 4 => ("BlinkMeshModel", "isTaken", "Z", false)
  | 5 => ("BlinkMeshModel", "before", "[I", true)
  | 6 => ("BlinkMeshModel", "text", "[C", true)
  | 7 => ("BlinkMeshModel", "length", "I", false)
  | 8 => ("BlinkMeshModel", "place", "I", false)
  | 9 => ("BlinkMeshModel", "told", "I", false)
  | 10 => ("BlinkMeshModel", "phases", "[I", true)
  | 11 => ("BlinkMeshModel", "rates", "[I", true)
  | _ => ("BlinkMeshModel", "toldLinks", "[I", true)
def tyX4 : Nat → FieldType := fun k => match k with
  | 0 => .array .int
  | 1 => .array .int
  | 2 => .int
  | 3 => .array .int
  | 4 => .boolean
  | 5 => .array .int
  | 6 => .array .char
  | 7 => .int
  | 8 => .int
  | 9 => .int
  | 10 => .array .int
  | 11 => .array .int
  | _ => .array .int
theorem nmX4 : ∀ a, a < 13 → ∀ b, b < 13 → a ≠ b → (TX4 a).2.1 ≠ (TX4 b).2.1 := by decide +kernel
theorem tyX4_ok : ∀ k, k < 13 → parseFieldDescriptor (TX4 k).2.2.1 = some (tyX4 k) := by decide +kernel
abbrev cX4_init : ByteArray := prog_6_method_1_code
def yX4_init : MethodName := ⟨RX4, "<init>", "()V"⟩
abbrev cX4_in : ByteArray := prog_6_method_3_code
def yX4_in : MethodName := ⟨RX4, "in", "(III)Z"⟩
abbrev cX4_has : ByteArray := prog_6_method_4_code
def yX4_has : MethodName := ⟨RX4, "has", "(II)Z"⟩
abbrev cX4_bits : ByteArray := prog_6_method_5_code
def yX4_bits : MethodName := ⟨RX4, "bits", "(I)I"⟩
abbrev cX4_of : ByteArray := prog_6_method_6_code
def yX4_of : MethodName := ⟨RX4, "of", "(II)I"⟩
abbrev cX4_put : ByteArray := prog_6_method_7_code
def yX4_put : MethodName := ⟨RX4, "put", "(III)V"⟩
abbrev cX4_isLamp : ByteArray := prog_6_method_8_code
def yX4_isLamp : MethodName := ⟨RX4, "isLamp", "(I)Z"⟩
abbrev cX4_isOn : ByteArray := prog_6_method_9_code
def yX4_isOn : MethodName := ⟨RX4, "isOn", "(I)Z"⟩
abbrev cX4_round : ByteArray := prog_6_method_10_code
def yX4_round : MethodName := ⟨RX4, "round", "()I"⟩
abbrev cX4_copy : ByteArray := prog_6_method_11_code
def yX4_copy : MethodName := ⟨RX4, "copy", "([II[II)V"⟩
abbrev cX4_record : ByteArray := prog_6_method_12_code
def yX4_record : MethodName := ⟨RX4, "record", "()V"⟩
abbrev cX4_setOf : ByteArray := prog_6_method_13_code
def yX4_setOf : MethodName := ⟨RX4, "setOf", "(I)I"⟩
abbrev cX4_lampsOn : ByteArray := prog_6_method_14_code
def yX4_lampsOn : MethodName := ⟨RX4, "lampsOn", "()I"⟩
abbrev cX4_links : ByteArray := prog_6_method_15_code
def yX4_links : MethodName := ⟨RX4, "links", "()I"⟩
abbrev cX4_grow : ByteArray := prog_6_method_16_code
def yX4_grow : MethodName := ⟨RX4, "grow", "()V"⟩
abbrev cX4_blink : ByteArray := prog_6_method_17_code
def yX4_blink : MethodName := ⟨RX4, "blink", "(I)I"⟩
abbrev cX4_push : ByteArray := prog_6_method_18_code
def yX4_push : MethodName := ⟨RX4, "push", "(II)I"⟩
abbrev cX4_tick : ByteArray := prog_6_method_19_code
def yX4_tick : MethodName := ⟨RX4, "tick", "()I"⟩
abbrev cX4_goOn : ByteArray := prog_6_method_20_code
def yX4_goOn : MethodName := ⟨RX4, "goOn", "(I)V"⟩
abbrev cX4_pieceOf : ByteArray := prog_6_method_21_code
def yX4_pieceOf : MethodName := ⟨RX4, "pieceOf", "(I)I"⟩
abbrev cX4_pieces : ByteArray := prog_6_method_22_code
def yX4_pieces : MethodName := ⟨RX4, "pieces", "()I"⟩
abbrev cX4_agreeing : ByteArray := prog_6_method_23_code
def yX4_agreeing : MethodName := ⟨RX4, "agreeing", "(I)I"⟩
abbrev cX4_distance : ByteArray := prog_6_method_24_code
def yX4_distance : MethodName := ⟨RX4, "distance", "(II)I"⟩
abbrev cX4_greatestDistance : ByteArray := prog_6_method_25_code
def yX4_greatestDistance : MethodName := ⟨RX4, "greatestDistance", "()I"⟩
abbrev cX4_isTogether : ByteArray := prog_6_method_26_code
def yX4_isTogether : MethodName := ⟨RX4, "isTogether", "()Z"⟩
abbrev cX4_come : ByteArray := prog_6_method_27_code
def yX4_come : MethodName := ⟨RX4, "come", "(II)I"⟩
abbrev cX4_lay : ByteArray := prog_6_method_28_code
def yX4_lay : MethodName := ⟨RX4, "lay", "(III)V"⟩
abbrev cX4_connect : ByteArray := prog_6_method_29_code
def yX4_connect : MethodName := ⟨RX4, "connect", "(IIZ)V"⟩
abbrev cX4_goAway : ByteArray := prog_6_method_30_code
def yX4_goAway : MethodName := ⟨RX4, "goAway", "(I)I"⟩
abbrev cX4_turn : ByteArray := prog_6_method_31_code
def yX4_turn : MethodName := ⟨RX4, "turn", "(IZ)I"⟩
abbrev cX4_link : ByteArray := prog_6_method_32_code
def yX4_link : MethodName := ⟨RX4, "link", "(IIZ)I"⟩
abbrev cX4_tune : ByteArray := prog_6_method_33_code
def yX4_tune : MethodName := ⟨RX4, "tune", "(III)I"⟩
abbrev cX4_set : ByteArray := prog_6_method_34_code
def yX4_set : MethodName := ⟨RX4, "set", "(II)I"⟩
abbrev cX4_pass : ByteArray := prog_6_method_35_code
def yX4_pass : MethodName := ⟨RX4, "pass", "(I)I"⟩
abbrev cX4_type : ByteArray := prog_6_method_36_code
def yX4_type : MethodName := ⟨RX4, "type", "(C)I"⟩
abbrev cX4_clearText : ByteArray := prog_6_method_37_code
def yX4_clearText : MethodName := ⟨RX4, "clearText", "()I"⟩
abbrev cX4_isNext : ByteArray := prog_6_method_38_code
def yX4_isNext : MethodName := ⟨RX4, "isNext", "(II)Z"⟩
abbrev cX4_takes : ByteArray := prog_6_method_39_code
def yX4_takes : MethodName := ⟨RX4, "takes", "(I)Z"⟩
abbrev cX4_begins : ByteArray := prog_6_method_40_code
def yX4_begins : MethodName := ⟨RX4, "begins", "(III)Z"⟩
abbrev cX4_readNumber : ByteArray := prog_6_method_41_code
def yX4_readNumber : MethodName := ⟨RX4, "readNumber", "(II)I"⟩
abbrev cX4_readLamp : ByteArray := prog_6_method_42_code
def yX4_readLamp : MethodName := ⟨RX4, "readLamp", "()Z"⟩
abbrev cX4_readLink : ByteArray := prog_6_method_43_code
def yX4_readLink : MethodName := ⟨RX4, "readLink", "()Z"⟩
abbrev cX4_readText : ByteArray := prog_6_method_44_code
def yX4_readText : MethodName := ⟨RX4, "readText", "()Z"⟩
abbrev cX4_readMesh : ByteArray := prog_6_method_45_code
def yX4_readMesh : MethodName := ⟨RX4, "readMesh", "()I"⟩
abbrev cX4_undo : ByteArray := prog_6_method_46_code
def yX4_undo : MethodName := ⟨RX4, "undo", "()I"⟩
abbrev cX4_keep : ByteArray := prog_6_method_47_code
def yX4_keep : MethodName := ⟨RX4, "keep", "()I"⟩
abbrev cX4_restore : ByteArray := prog_6_method_48_code
def yX4_restore : MethodName := ⟨RX4, "restore", "()I"⟩
abbrev cX4_lamp : ByteArray := prog_6_method_49_code
def yX4_lamp : MethodName := ⟨RX4, "lamp", "(II)I"⟩
abbrev cX4_apart : ByteArray := prog_6_method_50_code
def yX4_apart : MethodName := ⟨RX4, "apart", "(II)I"⟩
abbrev cX4_next : ByteArray := prog_6_method_51_code
def yX4_next : MethodName := ⟨RX4, "next", "(I)I"⟩
abbrev cX4_untilTogether : ByteArray := prog_6_method_52_code
def yX4_untilTogether : MethodName := ⟨RX4, "untilTogether", "()I"⟩
abbrev cX4_togetherIn : ByteArray := prog_6_method_53_code
def yX4_togetherIn : MethodName := ⟨RX4, "togetherIn", "()I"⟩
abbrev cX4_areRatesUnlike : ByteArray := prog_6_method_54_code
def yX4_areRatesUnlike : MethodName := ⟨RX4, "areRatesUnlike", "()Z"⟩
abbrev cX4_reason : ByteArray := prog_6_method_55_code
def yX4_reason : MethodName := ⟨RX4, "reason", "()I"⟩
abbrev cX4_spread : ByteArray := prog_6_method_56_code
def yX4_spread : MethodName := ⟨RX4, "spread", "()I"⟩
abbrev cX4_ifLinked : ByteArray := prog_6_method_57_code
def yX4_ifLinked : MethodName := ⟨RX4, "ifLinked", "(II)I"⟩
abbrev cX4_hub : ByteArray := prog_6_method_58_code
def yX4_hub : MethodName := ⟨RX4, "hub", "()I"⟩
abbrev cX4_bestLink : ByteArray := prog_6_method_59_code
def yX4_bestLink : MethodName := ⟨RX4, "bestLink", "(I)I"⟩
abbrev cX4_count : ByteArray := prog_6_method_60_code
def yX4_count : MethodName := ⟨RX4, "count", "(I)I"⟩
def RJx8e188 : String := "java/lang/Cloneable"
def RJ6 : String := "java/lang/Integer"
abbrev cJ6_bitCount_0f7a4 : ByteArray := prog_8_method_49_code
def yJ6_bitCount_0f7a4 : MethodName := ⟨RJ6, "bitCount", "(I)I"⟩
def RJ9 : String := "java/lang/Math"
abbrev cJ9_abs_0f7a4 : ByteArray := prog_9_method_59_code
def yJ9_abs_0f7a4 : MethodName := ⟨RJ9, "abs", "(I)I"⟩
abbrev cJ9_max_7cf53 : ByteArray := prog_9_method_65_code
def yJ9_max_7cf53 : MethodName := ⟨RJ9, "max", "(II)I"⟩
abbrev cJ9_min_7cf53 : ByteArray := prog_9_method_69_code
def yJ9_min_7cf53 : MethodName := ⟨RJ9, "min", "(II)I"⟩
def RJ10 : String := "java/lang/System"
def RL : String := "BlinkMeshLaw"
abbrev cL_law : ByteArray := code
def yL_law : MethodName := ⟨RL, "law", "([I)Z"⟩
abbrev vwCl : List vw_C := [(RX0, TX0, 2), (RX1, TX1, 15), (RX2, TX2, 7), (RX3, TX3, 6), (RX4, TX4, 13)]
end
section
theorem dX0_init_0 : decode cX0_init 0 = .ok (.aload_n 0, 1) := by decide +kernel
theorem dX0_init_1 : decode cX0_init 1 = .ok (.invokespecial 3, 3) := by decide +kernel
theorem dX0_init_4 : decode cX0_init 4 = .ok (.aload_n 0, 1) := by decide +kernel
theorem dX0_init_5 : decode cX0_init 5 = .ok (.iconst 4, 1) := by decide +kernel
theorem dX0_init_6 : decode cX0_init 6 = .ok (.anewarray 9, 3) := by decide +kernel
theorem dX0_init_9 : decode cX0_init 9 = .ok (.putfield 11, 3) := by decide +kernel
theorem dX0_init_12 : decode cX0_init 12 = .ok (.iconst 0, 1) := by decide +kernel
theorem dX0_init_13 : decode cX0_init 13 = .ok (.istore_n 1, 1) := by decide +kernel
theorem dX0_init_14 : decode cX0_init 14 = .ok (.iload_n 1, 1) := by decide +kernel
theorem dX0_init_15 : decode cX0_init 15 = .ok (.iconst 4, 1) := by decide +kernel
theorem dX0_init_16 : decode cX0_init 16 = .ok (.if_icmp .ge 22, 3) := by decide +kernel
theorem dX0_init_19 : decode cX0_init 19 = .ok (.aload_n 0, 1) := by decide +kernel
theorem dX0_init_20 : decode cX0_init 20 = .ok (.getfield 11, 3) := by decide +kernel
theorem dX0_init_23 : decode cX0_init 23 = .ok (.iload_n 1, 1) := by decide +kernel
theorem dX0_init_24 : decode cX0_init 24 = .ok (.new 9, 3) := by decide +kernel
theorem dX0_init_27 : decode cX0_init 27 = .ok (.dup, 1) := by decide +kernel
theorem dX0_init_28 : decode cX0_init 28 = .ok (.invokespecial 17, 3) := by decide +kernel
theorem dX0_init_31 : decode cX0_init 31 = .ok (.aastore, 1) := by decide +kernel
theorem dX0_init_32 : decode cX0_init 32 = .ok (.iinc 1 1, 3) := by decide +kernel
theorem dX0_init_35 : decode cX0_init 35 = .ok (.goto (-21), 3) := by decide +kernel
theorem dX0_init_38 : decode cX0_init 38 = .ok (.return_, 1) := by decide +kernel
theorem dX0_size_0 : decode cX0_size 0 = .ok (.aload_n 0, 1) := by decide +kernel
theorem dX0_size_1 : decode cX0_size 1 = .ok (.getfield 18, 3) := by decide +kernel
theorem dX0_size_4 : decode cX0_size 4 = .ok (.ireturn, 1) := by decide +kernel
theorem dX0_remember_0 : decode cX0_remember 0 = .ok (.aload_n 0, 1) := by decide +kernel
theorem dX0_remember_1 : decode cX0_remember 1 = .ok (.getfield 18, 3) := by decide +kernel
theorem dX0_remember_4 : decode cX0_remember 4 = .ok (.iconst 4, 1) := by decide +kernel
theorem dX0_remember_5 : decode cX0_remember 5 = .ok (.if_icmp .lt 7, 3) := by decide +kernel
theorem dX0_remember_8 : decode cX0_remember 8 = .ok (.aload_n 0, 1) := by decide +kernel
theorem dX0_remember_9 : decode cX0_remember 9 = .ok (.invokevirtual 22, 3) := by decide +kernel
theorem dX0_remember_12 : decode cX0_remember 12 = .ok (.aload_n 0, 1) := by decide +kernel
theorem dX0_remember_13 : decode cX0_remember 13 = .ok (.getfield 11, 3) := by decide +kernel
theorem dX0_remember_16 : decode cX0_remember 16 = .ok (.aload_n 0, 1) := by decide +kernel
theorem dX0_remember_17 : decode cX0_remember 17 = .ok (.getfield 18, 3) := by decide +kernel
theorem dX0_remember_20 : decode cX0_remember 20 = .ok (.aaload, 1) := by decide +kernel
theorem dX0_remember_21 : decode cX0_remember 21 = .ok (.aload_n 1, 1) := by decide +kernel
theorem dX0_remember_22 : decode cX0_remember 22 = .ok (.invokevirtual 25, 3) := by decide +kernel
theorem dX0_remember_25 : decode cX0_remember 25 = .ok (.aload_n 0, 1) := by decide +kernel
theorem dX0_remember_26 : decode cX0_remember 26 = .ok (.dup, 1) := by decide +kernel
theorem dX0_remember_27 : decode cX0_remember 27 = .ok (.getfield 18, 3) := by decide +kernel
theorem dX0_remember_30 : decode cX0_remember 30 = .ok (.iconst 1, 1) := by decide +kernel
theorem dX0_remember_31 : decode cX0_remember 31 = .ok (.iadd, 1) := by decide +kernel
theorem dX0_remember_32 : decode cX0_remember 32 = .ok (.putfield 18, 3) := by decide +kernel
theorem dX0_remember_35 : decode cX0_remember 35 = .ok (.return_, 1) := by decide +kernel
theorem dX0_dropOldest_0 : decode cX0_dropOldest 0 = .ok (.aload_n 0, 1) := by decide +kernel
theorem dX0_dropOldest_1 : decode cX0_dropOldest 1 = .ok (.getfield 11, 3) := by decide +kernel
theorem dX0_dropOldest_4 : decode cX0_dropOldest 4 = .ok (.iconst 0, 1) := by decide +kernel
theorem dX0_dropOldest_5 : decode cX0_dropOldest 5 = .ok (.aaload, 1) := by decide +kernel
theorem dX0_dropOldest_6 : decode cX0_dropOldest 6 = .ok (.astore_n 1, 1) := by decide +kernel
theorem dX0_dropOldest_7 : decode cX0_dropOldest 7 = .ok (.iconst 1, 1) := by decide +kernel
theorem dX0_dropOldest_8 : decode cX0_dropOldest 8 = .ok (.istore_n 2, 1) := by decide +kernel
theorem dX0_dropOldest_9 : decode cX0_dropOldest 9 = .ok (.iload_n 2, 1) := by decide +kernel
theorem dX0_dropOldest_10 : decode cX0_dropOldest 10 = .ok (.iconst 4, 1) := by decide +kernel
theorem dX0_dropOldest_11 : decode cX0_dropOldest 11 = .ok (.if_icmp .ge 23, 3) := by decide +kernel
theorem dX0_dropOldest_14 : decode cX0_dropOldest 14 = .ok (.aload_n 0, 1) := by decide +kernel
theorem dX0_dropOldest_15 : decode cX0_dropOldest 15 = .ok (.getfield 11, 3) := by decide +kernel
theorem dX0_dropOldest_18 : decode cX0_dropOldest 18 = .ok (.iload_n 2, 1) := by decide +kernel
theorem dX0_dropOldest_19 : decode cX0_dropOldest 19 = .ok (.iconst 1, 1) := by decide +kernel
theorem dX0_dropOldest_20 : decode cX0_dropOldest 20 = .ok (.isub, 1) := by decide +kernel
theorem dX0_dropOldest_21 : decode cX0_dropOldest 21 = .ok (.aload_n 0, 1) := by decide +kernel
theorem dX0_dropOldest_22 : decode cX0_dropOldest 22 = .ok (.getfield 11, 3) := by decide +kernel
theorem dX0_dropOldest_25 : decode cX0_dropOldest 25 = .ok (.iload_n 2, 1) := by decide +kernel
theorem dX0_dropOldest_26 : decode cX0_dropOldest 26 = .ok (.aaload, 1) := by decide +kernel
theorem dX0_dropOldest_27 : decode cX0_dropOldest 27 = .ok (.aastore, 1) := by decide +kernel
theorem dX0_dropOldest_28 : decode cX0_dropOldest 28 = .ok (.iinc 2 1, 3) := by decide +kernel
theorem dX0_dropOldest_31 : decode cX0_dropOldest 31 = .ok (.goto (-22), 3) := by decide +kernel
theorem dX0_dropOldest_34 : decode cX0_dropOldest 34 = .ok (.aload_n 0, 1) := by decide +kernel
theorem dX0_dropOldest_35 : decode cX0_dropOldest 35 = .ok (.getfield 11, 3) := by decide +kernel
theorem dX0_dropOldest_38 : decode cX0_dropOldest 38 = .ok (.iconst 3, 1) := by decide +kernel
theorem dX0_dropOldest_39 : decode cX0_dropOldest 39 = .ok (.aload_n 1, 1) := by decide +kernel
theorem dX0_dropOldest_40 : decode cX0_dropOldest 40 = .ok (.aastore, 1) := by decide +kernel
theorem dX0_dropOldest_41 : decode cX0_dropOldest 41 = .ok (.aload_n 0, 1) := by decide +kernel
theorem dX0_dropOldest_42 : decode cX0_dropOldest 42 = .ok (.iconst 3, 1) := by decide +kernel
theorem dX0_dropOldest_43 : decode cX0_dropOldest 43 = .ok (.putfield 18, 3) := by decide +kernel
theorem dX0_dropOldest_46 : decode cX0_dropOldest 46 = .ok (.return_, 1) := by decide +kernel
theorem dX0_takeBack_0 : decode cX0_takeBack 0 = .ok (.aload_n 0, 1) := by decide +kernel
theorem dX0_takeBack_1 : decode cX0_takeBack 1 = .ok (.getfield 18, 3) := by decide +kernel
theorem dX0_takeBack_4 : decode cX0_takeBack 4 = .ok (.ifCond .le 26, 3) := by decide +kernel
theorem dX0_takeBack_7 : decode cX0_takeBack 7 = .ok (.aload_n 0, 1) := by decide +kernel
theorem dX0_takeBack_8 : decode cX0_takeBack 8 = .ok (.dup, 1) := by decide +kernel
theorem dX0_takeBack_9 : decode cX0_takeBack 9 = .ok (.getfield 18, 3) := by decide +kernel
theorem dX0_takeBack_12 : decode cX0_takeBack 12 = .ok (.iconst 1, 1) := by decide +kernel
theorem dX0_takeBack_13 : decode cX0_takeBack 13 = .ok (.isub, 1) := by decide +kernel
theorem dX0_takeBack_14 : decode cX0_takeBack 14 = .ok (.putfield 18, 3) := by decide +kernel
theorem dX0_takeBack_17 : decode cX0_takeBack 17 = .ok (.aload_n 1, 1) := by decide +kernel
theorem dX0_takeBack_18 : decode cX0_takeBack 18 = .ok (.aload_n 0, 1) := by decide +kernel
theorem dX0_takeBack_19 : decode cX0_takeBack 19 = .ok (.getfield 11, 3) := by decide +kernel
theorem dX0_takeBack_22 : decode cX0_takeBack 22 = .ok (.aload_n 0, 1) := by decide +kernel
theorem dX0_takeBack_23 : decode cX0_takeBack 23 = .ok (.getfield 18, 3) := by decide +kernel
theorem dX0_takeBack_26 : decode cX0_takeBack 26 = .ok (.aaload, 1) := by decide +kernel
theorem dX0_takeBack_27 : decode cX0_takeBack 27 = .ok (.invokevirtual 25, 3) := by decide +kernel
theorem dX0_takeBack_30 : decode cX0_takeBack 30 = .ok (.return_, 1) := by decide +kernel
theorem dX1_init_0 : decode cX1_init 0 = .ok (.aload_n 0, 1) := by decide +kernel
theorem dX1_init_1 : decode cX1_init 1 = .ok (.invokespecial 3, 3) := by decide +kernel
theorem dX1_init_4 : decode cX1_init 4 = .ok (.aload_n 0, 1) := by decide +kernel
theorem dX1_init_5 : decode cX1_init 5 = .ok (.bipush 16, 2) := by decide +kernel
theorem dX1_init_7 : decode cX1_init 7 = .ok (.newarray .int, 2) := by decide +kernel
theorem dX1_init_9 : decode cX1_init 9 = .ok (.putfield 9, 3) := by decide +kernel
theorem dX1_init_12 : decode cX1_init 12 = .ok (.aload_n 0, 1) := by decide +kernel
theorem dX1_init_13 : decode cX1_init 13 = .ok (.bipush 16, 2) := by decide +kernel
theorem dX1_init_15 : decode cX1_init 15 = .ok (.newarray .int, 2) := by decide +kernel
theorem dX1_init_17 : decode cX1_init 17 = .ok (.putfield 15, 3) := by decide +kernel
theorem dX1_init_20 : decode cX1_init 20 = .ok (.aload_n 0, 1) := by decide +kernel
theorem dX1_init_21 : decode cX1_init 21 = .ok (.bipush 16, 2) := by decide +kernel
theorem dX1_init_23 : decode cX1_init 23 = .ok (.newarray .int, 2) := by decide +kernel
theorem dX1_init_25 : decode cX1_init 25 = .ok (.putfield 18, 3) := by decide +kernel
theorem dX1_init_28 : decode cX1_init 28 = .ok (.aload_n 0, 1) := by decide +kernel
theorem dX1_init_29 : decode cX1_init 29 = .ok (.bipush 16, 2) := by decide +kernel
theorem dX1_init_31 : decode cX1_init 31 = .ok (.newarray .int, 2) := by decide +kernel
theorem dX1_init_33 : decode cX1_init 33 = .ok (.putfield 21, 3) := by decide +kernel
theorem dX1_init_36 : decode cX1_init 36 = .ok (.aload_n 0, 1) := by decide +kernel
theorem dX1_init_37 : decode cX1_init 37 = .ok (.bipush 16, 2) := by decide +kernel
theorem dX1_init_39 : decode cX1_init 39 = .ok (.newarray .int, 2) := by decide +kernel
theorem dX1_init_41 : decode cX1_init 41 = .ok (.putfield 24, 3) := by decide +kernel
theorem dX1_init_44 : decode cX1_init 44 = .ok (.aload_n 0, 1) := by decide +kernel
theorem dX1_init_45 : decode cX1_init 45 = .ok (.bipush 16, 2) := by decide +kernel
theorem dX1_init_47 : decode cX1_init 47 = .ok (.newarray .int, 2) := by decide +kernel
theorem dX1_init_49 : decode cX1_init 49 = .ok (.putfield 27, 3) := by decide +kernel
theorem dX1_init_52 : decode cX1_init 52 = .ok (.aload_n 0, 1) := by decide +kernel
theorem dX1_init_53 : decode cX1_init 53 = .ok (.bipush 16, 2) := by decide +kernel
theorem dX1_init_55 : decode cX1_init 55 = .ok (.newarray .int, 2) := by decide +kernel
theorem dX1_init_57 : decode cX1_init 57 = .ok (.putfield 30, 3) := by decide +kernel
theorem dX1_init_60 : decode cX1_init 60 = .ok (.aload_n 0, 1) := by decide +kernel
theorem dX1_init_61 : decode cX1_init 61 = .ok (.getstatic 33, 3) := by decide +kernel
theorem dX1_init_64 : decode cX1_init 64 = .ok (.invokevirtual 36, 3) := by decide +kernel
theorem dX1_init_67 : decode cX1_init 67 = .ok (.checkcast 37, 3) := by decide +kernel
theorem dX1_init_70 : decode cX1_init 70 = .ok (.putfield 41, 3) := by decide +kernel
theorem dX1_init_73 : decode cX1_init 73 = .ok (.return_, 1) := by decide +kernel
theorem dX1_copyFrom_0 : decode cX1_copyFrom 0 = .ok (.aload_n 1, 1) := by decide +kernel
theorem dX1_copyFrom_1 : decode cX1_copyFrom 1 = .ok (.getfield 9, 3) := by decide +kernel
theorem dX1_copyFrom_4 : decode cX1_copyFrom 4 = .ok (.iconst 0, 1) := by decide +kernel
theorem dX1_copyFrom_5 : decode cX1_copyFrom 5 = .ok (.aload_n 0, 1) := by decide +kernel
theorem dX1_copyFrom_6 : decode cX1_copyFrom 6 = .ok (.getfield 9, 3) := by decide +kernel
theorem dX1_copyFrom_9 : decode cX1_copyFrom 9 = .ok (.iconst 0, 1) := by decide +kernel
theorem dX1_copyFrom_10 : decode cX1_copyFrom 10 = .ok (.bipush 16, 2) := by decide +kernel
theorem dX1_copyFrom_12 : decode cX1_copyFrom 12 = .ok (.invokestatic 44, 3) := by decide +kernel
theorem dX1_copyFrom_15 : decode cX1_copyFrom 15 = .ok (.aload_n 1, 1) := by decide +kernel
theorem dX1_copyFrom_16 : decode cX1_copyFrom 16 = .ok (.getfield 15, 3) := by decide +kernel
theorem dX1_copyFrom_19 : decode cX1_copyFrom 19 = .ok (.iconst 0, 1) := by decide +kernel
theorem dX1_copyFrom_20 : decode cX1_copyFrom 20 = .ok (.aload_n 0, 1) := by decide +kernel
theorem dX1_copyFrom_21 : decode cX1_copyFrom 21 = .ok (.getfield 15, 3) := by decide +kernel
theorem dX1_copyFrom_24 : decode cX1_copyFrom 24 = .ok (.iconst 0, 1) := by decide +kernel
theorem dX1_copyFrom_25 : decode cX1_copyFrom 25 = .ok (.bipush 16, 2) := by decide +kernel
theorem dX1_copyFrom_27 : decode cX1_copyFrom 27 = .ok (.invokestatic 44, 3) := by decide +kernel
theorem dX1_copyFrom_30 : decode cX1_copyFrom 30 = .ok (.aload_n 1, 1) := by decide +kernel
theorem dX1_copyFrom_31 : decode cX1_copyFrom 31 = .ok (.getfield 18, 3) := by decide +kernel
theorem dX1_copyFrom_34 : decode cX1_copyFrom 34 = .ok (.iconst 0, 1) := by decide +kernel
theorem dX1_copyFrom_35 : decode cX1_copyFrom 35 = .ok (.aload_n 0, 1) := by decide +kernel
theorem dX1_copyFrom_36 : decode cX1_copyFrom 36 = .ok (.getfield 18, 3) := by decide +kernel
theorem dX1_copyFrom_39 : decode cX1_copyFrom 39 = .ok (.iconst 0, 1) := by decide +kernel
theorem dX1_copyFrom_40 : decode cX1_copyFrom 40 = .ok (.bipush 16, 2) := by decide +kernel
theorem dX1_copyFrom_42 : decode cX1_copyFrom 42 = .ok (.invokestatic 44, 3) := by decide +kernel
theorem dX1_copyFrom_45 : decode cX1_copyFrom 45 = .ok (.aload_n 1, 1) := by decide +kernel
theorem dX1_copyFrom_46 : decode cX1_copyFrom 46 = .ok (.getfield 21, 3) := by decide +kernel
theorem dX1_copyFrom_49 : decode cX1_copyFrom 49 = .ok (.iconst 0, 1) := by decide +kernel
theorem dX1_copyFrom_50 : decode cX1_copyFrom 50 = .ok (.aload_n 0, 1) := by decide +kernel
theorem dX1_copyFrom_51 : decode cX1_copyFrom 51 = .ok (.getfield 21, 3) := by decide +kernel
theorem dX1_copyFrom_54 : decode cX1_copyFrom 54 = .ok (.iconst 0, 1) := by decide +kernel
theorem dX1_copyFrom_55 : decode cX1_copyFrom 55 = .ok (.bipush 16, 2) := by decide +kernel
theorem dX1_copyFrom_57 : decode cX1_copyFrom 57 = .ok (.invokestatic 44, 3) := by decide +kernel
theorem dX1_copyFrom_60 : decode cX1_copyFrom 60 = .ok (.aload_n 1, 1) := by decide +kernel
theorem dX1_copyFrom_61 : decode cX1_copyFrom 61 = .ok (.getfield 24, 3) := by decide +kernel
theorem dX1_copyFrom_64 : decode cX1_copyFrom 64 = .ok (.iconst 0, 1) := by decide +kernel
theorem dX1_copyFrom_65 : decode cX1_copyFrom 65 = .ok (.aload_n 0, 1) := by decide +kernel
theorem dX1_copyFrom_66 : decode cX1_copyFrom 66 = .ok (.getfield 24, 3) := by decide +kernel
theorem dX1_copyFrom_69 : decode cX1_copyFrom 69 = .ok (.iconst 0, 1) := by decide +kernel
theorem dX1_copyFrom_70 : decode cX1_copyFrom 70 = .ok (.bipush 16, 2) := by decide +kernel
theorem dX1_copyFrom_72 : decode cX1_copyFrom 72 = .ok (.invokestatic 44, 3) := by decide +kernel
theorem dX1_copyFrom_75 : decode cX1_copyFrom 75 = .ok (.aload_n 1, 1) := by decide +kernel
theorem dX1_copyFrom_76 : decode cX1_copyFrom 76 = .ok (.getfield 27, 3) := by decide +kernel
theorem dX1_copyFrom_79 : decode cX1_copyFrom 79 = .ok (.iconst 0, 1) := by decide +kernel
theorem dX1_copyFrom_80 : decode cX1_copyFrom 80 = .ok (.aload_n 0, 1) := by decide +kernel
theorem dX1_copyFrom_81 : decode cX1_copyFrom 81 = .ok (.getfield 27, 3) := by decide +kernel
theorem dX1_copyFrom_84 : decode cX1_copyFrom 84 = .ok (.iconst 0, 1) := by decide +kernel
theorem dX1_copyFrom_85 : decode cX1_copyFrom 85 = .ok (.bipush 16, 2) := by decide +kernel
theorem dX1_copyFrom_87 : decode cX1_copyFrom 87 = .ok (.invokestatic 44, 3) := by decide +kernel
theorem dX1_copyFrom_90 : decode cX1_copyFrom 90 = .ok (.aload_n 1, 1) := by decide +kernel
theorem dX1_copyFrom_91 : decode cX1_copyFrom 91 = .ok (.getfield 30, 3) := by decide +kernel
theorem dX1_copyFrom_94 : decode cX1_copyFrom 94 = .ok (.iconst 0, 1) := by decide +kernel
theorem dX1_copyFrom_95 : decode cX1_copyFrom 95 = .ok (.aload_n 0, 1) := by decide +kernel
theorem dX1_copyFrom_96 : decode cX1_copyFrom 96 = .ok (.getfield 30, 3) := by decide +kernel
theorem dX1_copyFrom_99 : decode cX1_copyFrom 99 = .ok (.iconst 0, 1) := by decide +kernel
theorem dX1_copyFrom_100 : decode cX1_copyFrom 100 = .ok (.bipush 16, 2) := by decide +kernel
theorem dX1_copyFrom_102 : decode cX1_copyFrom 102 = .ok (.invokestatic 44, 3) := by decide +kernel
theorem dX1_copyFrom_105 : decode cX1_copyFrom 105 = .ok (.aload_n 1, 1) := by decide +kernel
theorem dX1_copyFrom_106 : decode cX1_copyFrom 106 = .ok (.getfield 41, 3) := by decide +kernel
theorem dX1_copyFrom_109 : decode cX1_copyFrom 109 = .ok (.iconst 0, 1) := by decide +kernel
theorem dX1_copyFrom_110 : decode cX1_copyFrom 110 = .ok (.aload_n 0, 1) := by decide +kernel
theorem dX1_copyFrom_111 : decode cX1_copyFrom 111 = .ok (.getfield 41, 3) := by decide +kernel
theorem dX1_copyFrom_114 : decode cX1_copyFrom 114 = .ok (.iconst 0, 1) := by decide +kernel
theorem dX1_copyFrom_115 : decode cX1_copyFrom 115 = .ok (.iconst 3, 1) := by decide +kernel
theorem dX1_copyFrom_116 : decode cX1_copyFrom 116 = .ok (.invokestatic 44, 3) := by decide +kernel
theorem dX1_copyFrom_119 : decode cX1_copyFrom 119 = .ok (.aload_n 0, 1) := by decide +kernel
theorem dX1_copyFrom_120 : decode cX1_copyFrom 120 = .ok (.aload_n 1, 1) := by decide +kernel
theorem dX1_copyFrom_121 : decode cX1_copyFrom 121 = .ok (.getfield 50, 3) := by decide +kernel
theorem dX1_copyFrom_124 : decode cX1_copyFrom 124 = .ok (.putfield 50, 3) := by decide +kernel
theorem dX1_copyFrom_127 : decode cX1_copyFrom 127 = .ok (.aload_n 0, 1) := by decide +kernel
theorem dX1_copyFrom_128 : decode cX1_copyFrom 128 = .ok (.aload_n 1, 1) := by decide +kernel
theorem dX1_copyFrom_129 : decode cX1_copyFrom 129 = .ok (.getfield 54, 3) := by decide +kernel
theorem dX1_copyFrom_132 : decode cX1_copyFrom 132 = .ok (.putfield 54, 3) := by decide +kernel
theorem dX1_copyFrom_135 : decode cX1_copyFrom 135 = .ok (.aload_n 0, 1) := by decide +kernel
theorem dX1_copyFrom_136 : decode cX1_copyFrom 136 = .ok (.aload_n 1, 1) := by decide +kernel
theorem dX1_copyFrom_137 : decode cX1_copyFrom 137 = .ok (.getfield 57, 3) := by decide +kernel
theorem dX1_copyFrom_140 : decode cX1_copyFrom 140 = .ok (.putfield 57, 3) := by decide +kernel
theorem dX1_copyFrom_143 : decode cX1_copyFrom 143 = .ok (.aload_n 0, 1) := by decide +kernel
theorem dX1_copyFrom_144 : decode cX1_copyFrom 144 = .ok (.aload_n 1, 1) := by decide +kernel
theorem dX1_copyFrom_145 : decode cX1_copyFrom 145 = .ok (.getfield 60, 3) := by decide +kernel
theorem dX1_copyFrom_148 : decode cX1_copyFrom 148 = .ok (.putfield 60, 3) := by decide +kernel
theorem dX1_copyFrom_151 : decode cX1_copyFrom 151 = .ok (.aload_n 0, 1) := by decide +kernel
theorem dX1_copyFrom_152 : decode cX1_copyFrom 152 = .ok (.aload_n 1, 1) := by decide +kernel
theorem dX1_copyFrom_153 : decode cX1_copyFrom 153 = .ok (.getfield 63, 3) := by decide +kernel
theorem dX1_copyFrom_156 : decode cX1_copyFrom 156 = .ok (.putfield 63, 3) := by decide +kernel
theorem dX1_copyFrom_159 : decode cX1_copyFrom 159 = .ok (.aload_n 0, 1) := by decide +kernel
theorem dX1_copyFrom_160 : decode cX1_copyFrom 160 = .ok (.aload_n 1, 1) := by decide +kernel
theorem dX1_copyFrom_161 : decode cX1_copyFrom 161 = .ok (.getfield 66, 3) := by decide +kernel
theorem dX1_copyFrom_164 : decode cX1_copyFrom 164 = .ok (.putfield 66, 3) := by decide +kernel
theorem dX1_copyFrom_167 : decode cX1_copyFrom 167 = .ok (.aload_n 0, 1) := by decide +kernel
theorem dX1_copyFrom_168 : decode cX1_copyFrom 168 = .ok (.aload_n 1, 1) := by decide +kernel
theorem dX1_copyFrom_169 : decode cX1_copyFrom 169 = .ok (.getfield 69, 3) := by decide +kernel
theorem dX1_copyFrom_172 : decode cX1_copyFrom 172 = .ok (.putfield 69, 3) := by decide +kernel
theorem dX1_copyFrom_175 : decode cX1_copyFrom 175 = .ok (.return_, 1) := by decide +kernel
theorem dX1_has_0 : decode cX1_has 0 = .ok (.iload_n 1, 1) := by decide +kernel
theorem dX1_has_1 : decode cX1_has 1 = .ok (.ifCond .lt 24, 3) := by decide +kernel
theorem dX1_has_4 : decode cX1_has 4 = .ok (.iload_n 1, 1) := by decide +kernel
theorem dX1_has_5 : decode cX1_has 5 = .ok (.bipush 16, 2) := by decide +kernel
theorem dX1_has_7 : decode cX1_has 7 = .ok (.if_icmp .ge 18, 3) := by decide +kernel
theorem dX1_has_10 : decode cX1_has 10 = .ok (.aload_n 0, 1) := by decide +kernel
theorem dX1_has_11 : decode cX1_has 11 = .ok (.getfield 50, 3) := by decide +kernel
theorem dX1_has_14 : decode cX1_has 14 = .ok (.iload_n 1, 1) := by decide +kernel
theorem dX1_has_15 : decode cX1_has 15 = .ok (.invokestatic 72, 3) := by decide +kernel
theorem dX1_has_18 : decode cX1_has 18 = .ok (.ifCond .eq 7, 3) := by decide +kernel
theorem dX1_has_21 : decode cX1_has 21 = .ok (.iconst 1, 1) := by decide +kernel
theorem dX1_has_22 : decode cX1_has 22 = .ok (.goto 4, 3) := by decide +kernel
theorem dX1_has_25 : decode cX1_has 25 = .ok (.iconst 0, 1) := by decide +kernel
theorem dX1_has_26 : decode cX1_has 26 = .ok (.ireturn, 1) := by decide +kernel
theorem dX1_isOn_0 : decode cX1_isOn 0 = .ok (.aload_n 0, 1) := by decide +kernel
theorem dX1_isOn_1 : decode cX1_isOn 1 = .ok (.getfield 54, 3) := by decide +kernel
theorem dX1_isOn_4 : decode cX1_isOn 4 = .ok (.iload_n 1, 1) := by decide +kernel
theorem dX1_isOn_5 : decode cX1_isOn 5 = .ok (.invokestatic 72, 3) := by decide +kernel
theorem dX1_isOn_8 : decode cX1_isOn 8 = .ok (.ireturn, 1) := by decide +kernel
theorem dX1_isLinked_0 : decode cX1_isLinked 0 = .ok (.aload_n 0, 1) := by decide +kernel
theorem dX1_isLinked_1 : decode cX1_isLinked 1 = .ok (.getfield 21, 3) := by decide +kernel
theorem dX1_isLinked_4 : decode cX1_isLinked 4 = .ok (.iload_n 1, 1) := by decide +kernel
theorem dX1_isLinked_5 : decode cX1_isLinked 5 = .ok (.iaload, 1) := by decide +kernel
theorem dX1_isLinked_6 : decode cX1_isLinked 6 = .ok (.iload_n 2, 1) := by decide +kernel
theorem dX1_isLinked_7 : decode cX1_isLinked 7 = .ok (.invokestatic 72, 3) := by decide +kernel
theorem dX1_isLinked_10 : decode cX1_isLinked 10 = .ok (.ireturn, 1) := by decide +kernel
theorem dX1_couldLink_0 : decode cX1_couldLink 0 = .ok (.aload_n 0, 1) := by decide +kernel
theorem dX1_couldLink_1 : decode cX1_couldLink 1 = .ok (.iload_n 1, 1) := by decide +kernel
theorem dX1_couldLink_2 : decode cX1_couldLink 2 = .ok (.invokevirtual 76, 3) := by decide +kernel
theorem dX1_couldLink_5 : decode cX1_couldLink 5 = .ok (.ifCond .eq 24, 3) := by decide +kernel
theorem dX1_couldLink_8 : decode cX1_couldLink 8 = .ok (.aload_n 0, 1) := by decide +kernel
theorem dX1_couldLink_9 : decode cX1_couldLink 9 = .ok (.iload_n 2, 1) := by decide +kernel
theorem dX1_couldLink_10 : decode cX1_couldLink 10 = .ok (.invokevirtual 76, 3) := by decide +kernel
theorem dX1_couldLink_13 : decode cX1_couldLink 13 = .ok (.ifCond .eq 16, 3) := by decide +kernel
theorem dX1_couldLink_16 : decode cX1_couldLink 16 = .ok (.aload_n 0, 1) := by decide +kernel
theorem dX1_couldLink_17 : decode cX1_couldLink 17 = .ok (.iload_n 1, 1) := by decide +kernel
theorem dX1_couldLink_18 : decode cX1_couldLink 18 = .ok (.iload_n 2, 1) := by decide +kernel
theorem dX1_couldLink_19 : decode cX1_couldLink 19 = .ok (.invokevirtual 80, 3) := by decide +kernel
theorem dX1_couldLink_22 : decode cX1_couldLink 22 = .ok (.ifCond .ne 7, 3) := by decide +kernel
theorem dX1_couldLink_25 : decode cX1_couldLink 25 = .ok (.iconst 1, 1) := by decide +kernel
theorem dX1_couldLink_26 : decode cX1_couldLink 26 = .ok (.goto 4, 3) := by decide +kernel
theorem dX1_couldLink_29 : decode cX1_couldLink 29 = .ok (.iconst 0, 1) := by decide +kernel
theorem dX1_couldLink_30 : decode cX1_couldLink 30 = .ok (.ireturn, 1) := by decide +kernel
theorem dX1_isWholePhase_0 : decode cX1_isWholePhase 0 = .ok (.iload_n 1, 1) := by decide +kernel
theorem dX1_isWholePhase_1 : decode cX1_isWholePhase 1 = .ok (.ifCond .lt 17, 3) := by decide +kernel
theorem dX1_isWholePhase_4 : decode cX1_isWholePhase 4 = .ok (.iload_n 1, 1) := by decide +kernel
theorem dX1_isWholePhase_5 : decode cX1_isWholePhase 5 = .ok (.aload_n 0, 1) := by decide +kernel
theorem dX1_isWholePhase_6 : decode cX1_isWholePhase 6 = .ok (.getfield 41, 3) := by decide +kernel
theorem dX1_isWholePhase_9 : decode cX1_isWholePhase 9 = .ok (.iconst 0, 1) := by decide +kernel
theorem dX1_isWholePhase_10 : decode cX1_isWholePhase 10 = .ok (.iaload, 1) := by decide +kernel
theorem dX1_isWholePhase_11 : decode cX1_isWholePhase 11 = .ok (.if_icmp .ge 7, 3) := by decide +kernel
theorem dX1_isWholePhase_14 : decode cX1_isWholePhase 14 = .ok (.iconst 1, 1) := by decide +kernel
theorem dX1_isWholePhase_15 : decode cX1_isWholePhase 15 = .ok (.goto 4, 3) := by decide +kernel
theorem dX1_isWholePhase_18 : decode cX1_isWholePhase 18 = .ok (.iconst 0, 1) := by decide +kernel
theorem dX1_isWholePhase_19 : decode cX1_isWholePhase 19 = .ok (.ireturn, 1) := by decide +kernel
theorem dX1_setting_0 : decode cX1_setting 0 = .ok (.aload_n 0, 1) := by decide +kernel
theorem dX1_setting_1 : decode cX1_setting 1 = .ok (.getfield 41, 3) := by decide +kernel
theorem dX1_setting_4 : decode cX1_setting 4 = .ok (.iload_n 1, 1) := by decide +kernel
theorem dX1_setting_5 : decode cX1_setting 5 = .ok (.iaload, 1) := by decide +kernel
theorem dX1_setting_6 : decode cX1_setting 6 = .ok (.ireturn, 1) := by decide +kernel
theorem dX1_tickNumber_0 : decode cX1_tickNumber 0 = .ok (.aload_n 0, 1) := by decide +kernel
theorem dX1_tickNumber_1 : decode cX1_tickNumber 1 = .ok (.getfield 57, 3) := by decide +kernel
theorem dX1_tickNumber_4 : decode cX1_tickNumber 4 = .ok (.ireturn, 1) := by decide +kernel
theorem dX1_allBlinks_0 : decode cX1_allBlinks 0 = .ok (.aload_n 0, 1) := by decide +kernel
theorem dX1_allBlinks_1 : decode cX1_allBlinks 1 = .ok (.getfield 60, 3) := by decide +kernel
theorem dX1_allBlinks_4 : decode cX1_allBlinks 4 = .ok (.ireturn, 1) := by decide +kernel
theorem dX1_lamps_0 : decode cX1_lamps 0 = .ok (.aload_n 0, 1) := by decide +kernel
theorem dX1_lamps_1 : decode cX1_lamps 1 = .ok (.getfield 50, 3) := by decide +kernel
theorem dX1_lamps_4 : decode cX1_lamps 4 = .ok (.invokestatic 83, 3) := by decide +kernel
theorem dX1_lamps_7 : decode cX1_lamps 7 = .ok (.ireturn, 1) := by decide +kernel
theorem dX1_lampsOn_0 : decode cX1_lampsOn 0 = .ok (.aload_n 0, 1) := by decide +kernel
theorem dX1_lampsOn_1 : decode cX1_lampsOn 1 = .ok (.getfield 54, 3) := by decide +kernel
theorem dX1_lampsOn_4 : decode cX1_lampsOn 4 = .ok (.invokestatic 83, 3) := by decide +kernel
theorem dX1_lampsOn_7 : decode cX1_lampsOn 7 = .ok (.ireturn, 1) := by decide +kernel
theorem dX1_links_0 : decode cX1_links 0 = .ok (.iconst 0, 1) := by decide +kernel
theorem dX1_links_1 : decode cX1_links 1 = .ok (.istore_n 1, 1) := by decide +kernel
theorem dX1_links_2 : decode cX1_links 2 = .ok (.iconst 0, 1) := by decide +kernel
theorem dX1_links_3 : decode cX1_links 3 = .ok (.istore_n 2, 1) := by decide +kernel
theorem dX1_links_4 : decode cX1_links 4 = .ok (.iload_n 2, 1) := by decide +kernel
theorem dX1_links_5 : decode cX1_links 5 = .ok (.bipush 16, 2) := by decide +kernel
theorem dX1_links_7 : decode cX1_links 7 = .ok (.if_icmp .ge 21, 3) := by decide +kernel
theorem dX1_links_10 : decode cX1_links 10 = .ok (.iload_n 1, 1) := by decide +kernel
theorem dX1_links_11 : decode cX1_links 11 = .ok (.aload_n 0, 1) := by decide +kernel
theorem dX1_links_12 : decode cX1_links 12 = .ok (.getfield 21, 3) := by decide +kernel
theorem dX1_links_15 : decode cX1_links 15 = .ok (.iload_n 2, 1) := by decide +kernel
theorem dX1_links_16 : decode cX1_links 16 = .ok (.iaload, 1) := by decide +kernel
theorem dX1_links_17 : decode cX1_links 17 = .ok (.invokestatic 83, 3) := by decide +kernel
theorem dX1_links_20 : decode cX1_links 20 = .ok (.iadd, 1) := by decide +kernel
theorem dX1_links_21 : decode cX1_links 21 = .ok (.istore_n 1, 1) := by decide +kernel
theorem dX1_links_22 : decode cX1_links 22 = .ok (.iinc 2 1, 3) := by decide +kernel
theorem dX1_links_25 : decode cX1_links 25 = .ok (.goto (-21), 3) := by decide +kernel
theorem dX1_links_28 : decode cX1_links 28 = .ok (.iload_n 1, 1) := by decide +kernel
theorem dX1_links_29 : decode cX1_links 29 = .ok (.iconst 2, 1) := by decide +kernel
theorem dX1_links_30 : decode cX1_links 30 = .ok (.idiv, 1) := by decide +kernel
theorem dX1_links_31 : decode cX1_links 31 = .ok (.ireturn, 1) := by decide +kernel
theorem dX1_freeNumber_0 : decode cX1_freeNumber 0 = .ok (.iconst 0, 1) := by decide +kernel
theorem dX1_freeNumber_1 : decode cX1_freeNumber 1 = .ok (.istore_n 1, 1) := by decide +kernel
theorem dX1_freeNumber_2 : decode cX1_freeNumber 2 = .ok (.iload_n 1, 1) := by decide +kernel
theorem dX1_freeNumber_3 : decode cX1_freeNumber 3 = .ok (.bipush 16, 2) := by decide +kernel
theorem dX1_freeNumber_5 : decode cX1_freeNumber 5 = .ok (.if_icmp .ge 22, 3) := by decide +kernel
theorem dX1_freeNumber_8 : decode cX1_freeNumber 8 = .ok (.aload_n 0, 1) := by decide +kernel
theorem dX1_freeNumber_9 : decode cX1_freeNumber 9 = .ok (.getfield 50, 3) := by decide +kernel
theorem dX1_freeNumber_12 : decode cX1_freeNumber 12 = .ok (.iload_n 1, 1) := by decide +kernel
theorem dX1_freeNumber_13 : decode cX1_freeNumber 13 = .ok (.invokestatic 72, 3) := by decide +kernel
theorem dX1_freeNumber_16 : decode cX1_freeNumber 16 = .ok (.ifCond .ne 5, 3) := by decide +kernel
theorem dX1_freeNumber_19 : decode cX1_freeNumber 19 = .ok (.iload_n 1, 1) := by decide +kernel
theorem dX1_freeNumber_20 : decode cX1_freeNumber 20 = .ok (.ireturn, 1) := by decide +kernel
theorem dX1_freeNumber_21 : decode cX1_freeNumber 21 = .ok (.iinc 1 1, 3) := by decide +kernel
theorem dX1_freeNumber_24 : decode cX1_freeNumber 24 = .ok (.goto (-22), 3) := by decide +kernel
theorem dX1_freeNumber_27 : decode cX1_freeNumber 27 = .ok (.iconst (-1), 1) := by decide +kernel
theorem dX1_freeNumber_28 : decode cX1_freeNumber 28 = .ok (.ireturn, 1) := by decide +kernel
theorem dX1_place_0 : decode cX1_place 0 = .ok (.aload_n 0, 1) := by decide +kernel
theorem dX1_place_1 : decode cX1_place 1 = .ok (.dup, 1) := by decide +kernel
theorem dX1_place_2 : decode cX1_place 2 = .ok (.getfield 50, 3) := by decide +kernel
theorem dX1_place_5 : decode cX1_place 5 = .ok (.iconst 1, 1) := by decide +kernel
theorem dX1_place_6 : decode cX1_place 6 = .ok (.iload_n 1, 1) := by decide +kernel
theorem dX1_place_7 : decode cX1_place 7 = .ok (.ishl, 1) := by decide +kernel
theorem dX1_place_8 : decode cX1_place 8 = .ok (.ior, 1) := by decide +kernel
theorem dX1_place_9 : decode cX1_place 9 = .ok (.putfield 50, 3) := by decide +kernel
theorem dX1_place_12 : decode cX1_place 12 = .ok (.aload_n 0, 1) := by decide +kernel
theorem dX1_place_13 : decode cX1_place 13 = .ok (.dup, 1) := by decide +kernel
theorem dX1_place_14 : decode cX1_place 14 = .ok (.getfield 54, 3) := by decide +kernel
theorem dX1_place_17 : decode cX1_place 17 = .ok (.iconst 1, 1) := by decide +kernel
theorem dX1_place_18 : decode cX1_place 18 = .ok (.iload_n 1, 1) := by decide +kernel
theorem dX1_place_19 : decode cX1_place 19 = .ok (.ishl, 1) := by decide +kernel
theorem dX1_place_20 : decode cX1_place 20 = .ok (.ior, 1) := by decide +kernel
theorem dX1_place_21 : decode cX1_place 21 = .ok (.putfield 54, 3) := by decide +kernel
theorem dX1_place_24 : decode cX1_place 24 = .ok (.aload_n 0, 1) := by decide +kernel
theorem dX1_place_25 : decode cX1_place 25 = .ok (.getfield 9, 3) := by decide +kernel
theorem dX1_place_28 : decode cX1_place 28 = .ok (.iload_n 1, 1) := by decide +kernel
theorem dX1_place_29 : decode cX1_place 29 = .ok (.iload_n 2, 1) := by decide +kernel
theorem dX1_place_30 : decode cX1_place 30 = .ok (.bipush 100, 2) := by decide +kernel
theorem dX1_place_32 : decode cX1_place 32 = .ok (.imul, 1) := by decide +kernel
theorem dX1_place_33 : decode cX1_place 33 = .ok (.iastore, 1) := by decide +kernel
theorem dX1_place_34 : decode cX1_place 34 = .ok (.aload_n 0, 1) := by decide +kernel
theorem dX1_place_35 : decode cX1_place 35 = .ok (.getfield 15, 3) := by decide +kernel
theorem dX1_place_38 : decode cX1_place 38 = .ok (.iload_n 1, 1) := by decide +kernel
theorem dX1_place_39 : decode cX1_place 39 = .ok (.iload_n 3, 1) := by decide +kernel
theorem dX1_place_40 : decode cX1_place 40 = .ok (.iastore, 1) := by decide +kernel
theorem dX1_place_41 : decode cX1_place 41 = .ok (.aload_n 0, 1) := by decide +kernel
theorem dX1_place_42 : decode cX1_place 42 = .ok (.getfield 18, 3) := by decide +kernel
theorem dX1_place_45 : decode cX1_place 45 = .ok (.iload_n 1, 1) := by decide +kernel
theorem dX1_place_46 : decode cX1_place 46 = .ok (.iconst 0, 1) := by decide +kernel
theorem dX1_place_47 : decode cX1_place 47 = .ok (.iastore, 1) := by decide +kernel
theorem dX1_place_48 : decode cX1_place 48 = .ok (.aload_n 0, 1) := by decide +kernel
theorem dX1_place_49 : decode cX1_place 49 = .ok (.getfield 21, 3) := by decide +kernel
theorem dX1_place_52 : decode cX1_place 52 = .ok (.iload_n 1, 1) := by decide +kernel
theorem dX1_place_53 : decode cX1_place 53 = .ok (.iconst 0, 1) := by decide +kernel
theorem dX1_place_54 : decode cX1_place 54 = .ok (.iastore, 1) := by decide +kernel
theorem dX1_place_55 : decode cX1_place 55 = .ok (.aload_n 0, 1) := by decide +kernel
theorem dX1_place_56 : decode cX1_place 56 = .ok (.getfield 24, 3) := by decide +kernel
theorem dX1_place_59 : decode cX1_place 59 = .ok (.iload_n 1, 1) := by decide +kernel
theorem dX1_place_60 : decode cX1_place 60 = .ok (.iconst 0, 1) := by decide +kernel
theorem dX1_place_61 : decode cX1_place 61 = .ok (.iastore, 1) := by decide +kernel
theorem dX1_place_62 : decode cX1_place 62 = .ok (.aload_n 0, 1) := by decide +kernel
theorem dX1_place_63 : decode cX1_place 63 = .ok (.getfield 27, 3) := by decide +kernel
theorem dX1_place_66 : decode cX1_place 66 = .ok (.iload_n 1, 1) := by decide +kernel
theorem dX1_place_67 : decode cX1_place 67 = .ok (.iconst 0, 1) := by decide +kernel
theorem dX1_place_68 : decode cX1_place 68 = .ok (.iastore, 1) := by decide +kernel
theorem dX1_place_69 : decode cX1_place 69 = .ok (.aload_n 0, 1) := by decide +kernel
theorem dX1_place_70 : decode cX1_place 70 = .ok (.getfield 30, 3) := by decide +kernel
theorem dX1_place_73 : decode cX1_place 73 = .ok (.iload_n 1, 1) := by decide +kernel
theorem dX1_place_74 : decode cX1_place 74 = .ok (.iconst 0, 1) := by decide +kernel
theorem dX1_place_75 : decode cX1_place 75 = .ok (.iastore, 1) := by decide +kernel
theorem dX1_place_76 : decode cX1_place 76 = .ok (.return_, 1) := by decide +kernel
theorem dX1_remove_0 : decode cX1_remove 0 = .ok (.aload_n 0, 1) := by decide +kernel
theorem dX1_remove_1 : decode cX1_remove 1 = .ok (.getfield 21, 3) := by decide +kernel
theorem dX1_remove_4 : decode cX1_remove 4 = .ok (.iload_n 1, 1) := by decide +kernel
theorem dX1_remove_5 : decode cX1_remove 5 = .ok (.iaload, 1) := by decide +kernel
theorem dX1_remove_6 : decode cX1_remove 6 = .ok (.invokestatic 83, 3) := by decide +kernel
theorem dX1_remove_9 : decode cX1_remove 9 = .ok (.istore_n 2, 1) := by decide +kernel
theorem dX1_remove_10 : decode cX1_remove 10 = .ok (.iconst 1, 1) := by decide +kernel
theorem dX1_remove_11 : decode cX1_remove 11 = .ok (.iload_n 1, 1) := by decide +kernel
theorem dX1_remove_12 : decode cX1_remove 12 = .ok (.ishl, 1) := by decide +kernel
theorem dX1_remove_13 : decode cX1_remove 13 = .ok (.iconst (-1), 1) := by decide +kernel
theorem dX1_remove_14 : decode cX1_remove 14 = .ok (.ixor, 1) := by decide +kernel
theorem dX1_remove_15 : decode cX1_remove 15 = .ok (.istore_n 3, 1) := by decide +kernel
theorem dX1_remove_16 : decode cX1_remove 16 = .ok (.aload_n 0, 1) := by decide +kernel
theorem dX1_remove_17 : decode cX1_remove 17 = .ok (.dup, 1) := by decide +kernel
theorem dX1_remove_18 : decode cX1_remove 18 = .ok (.getfield 50, 3) := by decide +kernel
theorem dX1_remove_21 : decode cX1_remove 21 = .ok (.iload_n 3, 1) := by decide +kernel
theorem dX1_remove_22 : decode cX1_remove 22 = .ok (.iand, 1) := by decide +kernel
theorem dX1_remove_23 : decode cX1_remove 23 = .ok (.putfield 50, 3) := by decide +kernel
theorem dX1_remove_26 : decode cX1_remove 26 = .ok (.aload_n 0, 1) := by decide +kernel
theorem dX1_remove_27 : decode cX1_remove 27 = .ok (.dup, 1) := by decide +kernel
theorem dX1_remove_28 : decode cX1_remove 28 = .ok (.getfield 54, 3) := by decide +kernel
theorem dX1_remove_31 : decode cX1_remove 31 = .ok (.iload_n 3, 1) := by decide +kernel
theorem dX1_remove_32 : decode cX1_remove 32 = .ok (.iand, 1) := by decide +kernel
theorem dX1_remove_33 : decode cX1_remove 33 = .ok (.putfield 54, 3) := by decide +kernel
theorem dX1_remove_36 : decode cX1_remove 36 = .ok (.aload_n 0, 1) := by decide +kernel
theorem dX1_remove_37 : decode cX1_remove 37 = .ok (.getfield 21, 3) := by decide +kernel
theorem dX1_remove_40 : decode cX1_remove 40 = .ok (.iload_n 1, 1) := by decide +kernel
theorem dX1_remove_41 : decode cX1_remove 41 = .ok (.iconst 0, 1) := by decide +kernel
theorem dX1_remove_42 : decode cX1_remove 42 = .ok (.iastore, 1) := by decide +kernel
theorem dX1_remove_43 : decode cX1_remove 43 = .ok (.iconst 0, 1) := by decide +kernel
theorem dX1_remove_44 : decode cX1_remove 44 = .ok (.istore 4, 2) := by decide +kernel
theorem dX1_remove_46 : decode cX1_remove 46 = .ok (.iload 4, 2) := by decide +kernel
theorem dX1_remove_48 : decode cX1_remove 48 = .ok (.bipush 16, 2) := by decide +kernel
theorem dX1_remove_50 : decode cX1_remove 50 = .ok (.if_icmp .ge 20, 3) := by decide +kernel
theorem dX1_remove_53 : decode cX1_remove 53 = .ok (.aload_n 0, 1) := by decide +kernel
theorem dX1_remove_54 : decode cX1_remove 54 = .ok (.getfield 21, 3) := by decide +kernel
theorem dX1_remove_57 : decode cX1_remove 57 = .ok (.iload 4, 2) := by decide +kernel
theorem dX1_remove_59 : decode cX1_remove 59 = .ok (.dup2, 1) := by decide +kernel
theorem dX1_remove_60 : decode cX1_remove 60 = .ok (.iaload, 1) := by decide +kernel
theorem dX1_remove_61 : decode cX1_remove 61 = .ok (.iload_n 3, 1) := by decide +kernel
theorem dX1_remove_62 : decode cX1_remove 62 = .ok (.iand, 1) := by decide +kernel
theorem dX1_remove_63 : decode cX1_remove 63 = .ok (.iastore, 1) := by decide +kernel
theorem dX1_remove_64 : decode cX1_remove 64 = .ok (.iinc 4 1, 3) := by decide +kernel
theorem dX1_remove_67 : decode cX1_remove 67 = .ok (.goto (-21), 3) := by decide +kernel
theorem dX1_remove_70 : decode cX1_remove 70 = .ok (.iload_n 2, 1) := by decide +kernel
theorem dX1_remove_71 : decode cX1_remove 71 = .ok (.ireturn, 1) := by decide +kernel
theorem dX1_removeAll_0 : decode cX1_removeAll 0 = .ok (.aload_n 0, 1) := by decide +kernel
theorem dX1_removeAll_1 : decode cX1_removeAll 1 = .ok (.iconst 0, 1) := by decide +kernel
theorem dX1_removeAll_2 : decode cX1_removeAll 2 = .ok (.putfield 50, 3) := by decide +kernel
theorem dX1_removeAll_5 : decode cX1_removeAll 5 = .ok (.aload_n 0, 1) := by decide +kernel
theorem dX1_removeAll_6 : decode cX1_removeAll 6 = .ok (.iconst 0, 1) := by decide +kernel
theorem dX1_removeAll_7 : decode cX1_removeAll 7 = .ok (.putfield 54, 3) := by decide +kernel
theorem dX1_removeAll_10 : decode cX1_removeAll 10 = .ok (.iconst 0, 1) := by decide +kernel
theorem dX1_removeAll_11 : decode cX1_removeAll 11 = .ok (.istore_n 1, 1) := by decide +kernel
theorem dX1_removeAll_12 : decode cX1_removeAll 12 = .ok (.iload_n 1, 1) := by decide +kernel
theorem dX1_removeAll_13 : decode cX1_removeAll 13 = .ok (.bipush 16, 2) := by decide +kernel
theorem dX1_removeAll_15 : decode cX1_removeAll 15 = .ok (.if_icmp .ge 16, 3) := by decide +kernel
theorem dX1_removeAll_18 : decode cX1_removeAll 18 = .ok (.aload_n 0, 1) := by decide +kernel
theorem dX1_removeAll_19 : decode cX1_removeAll 19 = .ok (.getfield 21, 3) := by decide +kernel
theorem dX1_removeAll_22 : decode cX1_removeAll 22 = .ok (.iload_n 1, 1) := by decide +kernel
theorem dX1_removeAll_23 : decode cX1_removeAll 23 = .ok (.iconst 0, 1) := by decide +kernel
theorem dX1_removeAll_24 : decode cX1_removeAll 24 = .ok (.iastore, 1) := by decide +kernel
theorem dX1_removeAll_25 : decode cX1_removeAll 25 = .ok (.iinc 1 1, 3) := by decide +kernel
theorem dX1_removeAll_28 : decode cX1_removeAll 28 = .ok (.goto (-16), 3) := by decide +kernel
theorem dX1_removeAll_31 : decode cX1_removeAll 31 = .ok (.return_, 1) := by decide +kernel
theorem dX1_switchTo_0 : decode cX1_switchTo 0 = .ok (.iload_n 2, 1) := by decide +kernel
theorem dX1_switchTo_1 : decode cX1_switchTo 1 = .ok (.ifCond .eq 18, 3) := by decide +kernel
theorem dX1_switchTo_4 : decode cX1_switchTo 4 = .ok (.aload_n 0, 1) := by decide +kernel
theorem dX1_switchTo_5 : decode cX1_switchTo 5 = .ok (.dup, 1) := by decide +kernel
theorem dX1_switchTo_6 : decode cX1_switchTo 6 = .ok (.getfield 54, 3) := by decide +kernel
theorem dX1_switchTo_9 : decode cX1_switchTo 9 = .ok (.iconst 1, 1) := by decide +kernel
theorem dX1_switchTo_10 : decode cX1_switchTo 10 = .ok (.iload_n 1, 1) := by decide +kernel
theorem dX1_switchTo_11 : decode cX1_switchTo 11 = .ok (.ishl, 1) := by decide +kernel
theorem dX1_switchTo_12 : decode cX1_switchTo 12 = .ok (.ior, 1) := by decide +kernel
theorem dX1_switchTo_13 : decode cX1_switchTo 13 = .ok (.putfield 54, 3) := by decide +kernel
theorem dX1_switchTo_16 : decode cX1_switchTo 16 = .ok (.goto 17, 3) := by decide +kernel
theorem dX1_switchTo_19 : decode cX1_switchTo 19 = .ok (.aload_n 0, 1) := by decide +kernel
theorem dX1_switchTo_20 : decode cX1_switchTo 20 = .ok (.dup, 1) := by decide +kernel
theorem dX1_switchTo_21 : decode cX1_switchTo 21 = .ok (.getfield 54, 3) := by decide +kernel
theorem dX1_switchTo_24 : decode cX1_switchTo 24 = .ok (.iconst 1, 1) := by decide +kernel
theorem dX1_switchTo_25 : decode cX1_switchTo 25 = .ok (.iload_n 1, 1) := by decide +kernel
theorem dX1_switchTo_26 : decode cX1_switchTo 26 = .ok (.ishl, 1) := by decide +kernel
theorem dX1_switchTo_27 : decode cX1_switchTo 27 = .ok (.iconst (-1), 1) := by decide +kernel
theorem dX1_switchTo_28 : decode cX1_switchTo 28 = .ok (.ixor, 1) := by decide +kernel
theorem dX1_switchTo_29 : decode cX1_switchTo 29 = .ok (.iand, 1) := by decide +kernel
theorem dX1_switchTo_30 : decode cX1_switchTo 30 = .ok (.putfield 54, 3) := by decide +kernel
theorem dX1_switchTo_33 : decode cX1_switchTo 33 = .ok (.return_, 1) := by decide +kernel
theorem dX1_changeLink_0 : decode cX1_changeLink 0 = .ok (.iload_n 3, 1) := by decide +kernel
theorem dX1_changeLink_1 : decode cX1_changeLink 1 = .ok (.ifCond .eq 30, 3) := by decide +kernel
theorem dX1_changeLink_4 : decode cX1_changeLink 4 = .ok (.aload_n 0, 1) := by decide +kernel
theorem dX1_changeLink_5 : decode cX1_changeLink 5 = .ok (.getfield 21, 3) := by decide +kernel
theorem dX1_changeLink_8 : decode cX1_changeLink 8 = .ok (.iload_n 1, 1) := by decide +kernel
theorem dX1_changeLink_9 : decode cX1_changeLink 9 = .ok (.dup2, 1) := by decide +kernel
theorem dX1_changeLink_10 : decode cX1_changeLink 10 = .ok (.iaload, 1) := by decide +kernel
theorem dX1_changeLink_11 : decode cX1_changeLink 11 = .ok (.iconst 1, 1) := by decide +kernel
theorem dX1_changeLink_12 : decode cX1_changeLink 12 = .ok (.iload_n 2, 1) := by decide +kernel
theorem dX1_changeLink_13 : decode cX1_changeLink 13 = .ok (.ishl, 1) := by decide +kernel
theorem dX1_changeLink_14 : decode cX1_changeLink 14 = .ok (.ior, 1) := by decide +kernel
theorem dX1_changeLink_15 : decode cX1_changeLink 15 = .ok (.iastore, 1) := by decide +kernel
theorem dX1_changeLink_16 : decode cX1_changeLink 16 = .ok (.aload_n 0, 1) := by decide +kernel
theorem dX1_changeLink_17 : decode cX1_changeLink 17 = .ok (.getfield 21, 3) := by decide +kernel
theorem dX1_changeLink_20 : decode cX1_changeLink 20 = .ok (.iload_n 2, 1) := by decide +kernel
theorem dX1_changeLink_21 : decode cX1_changeLink 21 = .ok (.dup2, 1) := by decide +kernel
theorem dX1_changeLink_22 : decode cX1_changeLink 22 = .ok (.iaload, 1) := by decide +kernel
theorem dX1_changeLink_23 : decode cX1_changeLink 23 = .ok (.iconst 1, 1) := by decide +kernel
theorem dX1_changeLink_24 : decode cX1_changeLink 24 = .ok (.iload_n 1, 1) := by decide +kernel
theorem dX1_changeLink_25 : decode cX1_changeLink 25 = .ok (.ishl, 1) := by decide +kernel
theorem dX1_changeLink_26 : decode cX1_changeLink 26 = .ok (.ior, 1) := by decide +kernel
theorem dX1_changeLink_27 : decode cX1_changeLink 27 = .ok (.iastore, 1) := by decide +kernel
theorem dX1_changeLink_28 : decode cX1_changeLink 28 = .ok (.goto 31, 3) := by decide +kernel
theorem dX1_changeLink_31 : decode cX1_changeLink 31 = .ok (.aload_n 0, 1) := by decide +kernel
theorem dX1_changeLink_32 : decode cX1_changeLink 32 = .ok (.getfield 21, 3) := by decide +kernel
theorem dX1_changeLink_35 : decode cX1_changeLink 35 = .ok (.iload_n 1, 1) := by decide +kernel
theorem dX1_changeLink_36 : decode cX1_changeLink 36 = .ok (.dup2, 1) := by decide +kernel
theorem dX1_changeLink_37 : decode cX1_changeLink 37 = .ok (.iaload, 1) := by decide +kernel
theorem dX1_changeLink_38 : decode cX1_changeLink 38 = .ok (.iconst 1, 1) := by decide +kernel
theorem dX1_changeLink_39 : decode cX1_changeLink 39 = .ok (.iload_n 2, 1) := by decide +kernel
theorem dX1_changeLink_40 : decode cX1_changeLink 40 = .ok (.ishl, 1) := by decide +kernel
theorem dX1_changeLink_41 : decode cX1_changeLink 41 = .ok (.iconst (-1), 1) := by decide +kernel
theorem dX1_changeLink_42 : decode cX1_changeLink 42 = .ok (.ixor, 1) := by decide +kernel
theorem dX1_changeLink_43 : decode cX1_changeLink 43 = .ok (.iand, 1) := by decide +kernel
theorem dX1_changeLink_44 : decode cX1_changeLink 44 = .ok (.iastore, 1) := by decide +kernel
theorem dX1_changeLink_45 : decode cX1_changeLink 45 = .ok (.aload_n 0, 1) := by decide +kernel
theorem dX1_changeLink_46 : decode cX1_changeLink 46 = .ok (.getfield 21, 3) := by decide +kernel
theorem dX1_changeLink_49 : decode cX1_changeLink 49 = .ok (.iload_n 2, 1) := by decide +kernel
theorem dX1_changeLink_50 : decode cX1_changeLink 50 = .ok (.dup2, 1) := by decide +kernel
theorem dX1_changeLink_51 : decode cX1_changeLink 51 = .ok (.iaload, 1) := by decide +kernel
theorem dX1_changeLink_52 : decode cX1_changeLink 52 = .ok (.iconst 1, 1) := by decide +kernel
theorem dX1_changeLink_53 : decode cX1_changeLink 53 = .ok (.iload_n 1, 1) := by decide +kernel
theorem dX1_changeLink_54 : decode cX1_changeLink 54 = .ok (.ishl, 1) := by decide +kernel
theorem dX1_changeLink_55 : decode cX1_changeLink 55 = .ok (.iconst (-1), 1) := by decide +kernel
theorem dX1_changeLink_56 : decode cX1_changeLink 56 = .ok (.ixor, 1) := by decide +kernel
theorem dX1_changeLink_57 : decode cX1_changeLink 57 = .ok (.iand, 1) := by decide +kernel
theorem dX1_changeLink_58 : decode cX1_changeLink 58 = .ok (.iastore, 1) := by decide +kernel
theorem dX1_changeLink_59 : decode cX1_changeLink 59 = .ok (.return_, 1) := by decide +kernel
theorem dX1_retune_0 : decode cX1_retune 0 = .ok (.aload_n 0, 1) := by decide +kernel
theorem dX1_retune_1 : decode cX1_retune 1 = .ok (.getfield 9, 3) := by decide +kernel
theorem dX1_retune_4 : decode cX1_retune 4 = .ok (.iload_n 1, 1) := by decide +kernel
theorem dX1_retune_5 : decode cX1_retune 5 = .ok (.iaload, 1) := by decide +kernel
theorem dX1_retune_6 : decode cX1_retune 6 = .ok (.istore 4, 2) := by decide +kernel
theorem dX1_retune_8 : decode cX1_retune 8 = .ok (.aload_n 0, 1) := by decide +kernel
theorem dX1_retune_9 : decode cX1_retune 9 = .ok (.getfield 9, 3) := by decide +kernel
theorem dX1_retune_12 : decode cX1_retune 12 = .ok (.iload_n 1, 1) := by decide +kernel
theorem dX1_retune_13 : decode cX1_retune 13 = .ok (.iload_n 2, 1) := by decide +kernel
theorem dX1_retune_14 : decode cX1_retune 14 = .ok (.bipush 100, 2) := by decide +kernel
theorem dX1_retune_16 : decode cX1_retune 16 = .ok (.imul, 1) := by decide +kernel
theorem dX1_retune_17 : decode cX1_retune 17 = .ok (.iastore, 1) := by decide +kernel
theorem dX1_retune_18 : decode cX1_retune 18 = .ok (.aload_n 0, 1) := by decide +kernel
theorem dX1_retune_19 : decode cX1_retune 19 = .ok (.getfield 15, 3) := by decide +kernel
theorem dX1_retune_22 : decode cX1_retune 22 = .ok (.iload_n 1, 1) := by decide +kernel
theorem dX1_retune_23 : decode cX1_retune 23 = .ok (.iload_n 3, 1) := by decide +kernel
theorem dX1_retune_24 : decode cX1_retune 24 = .ok (.iastore, 1) := by decide +kernel
theorem dX1_retune_25 : decode cX1_retune 25 = .ok (.iload 4, 2) := by decide +kernel
theorem dX1_retune_27 : decode cX1_retune 27 = .ok (.ireturn, 1) := by decide +kernel
theorem dX1_changeSetting_0 : decode cX1_changeSetting 0 = .ok (.aload_n 0, 1) := by decide +kernel
theorem dX1_changeSetting_1 : decode cX1_changeSetting 1 = .ok (.getfield 41, 3) := by decide +kernel
theorem dX1_changeSetting_4 : decode cX1_changeSetting 4 = .ok (.iload_n 1, 1) := by decide +kernel
theorem dX1_changeSetting_5 : decode cX1_changeSetting 5 = .ok (.iaload, 1) := by decide +kernel
theorem dX1_changeSetting_6 : decode cX1_changeSetting 6 = .ok (.istore_n 3, 1) := by decide +kernel
theorem dX1_changeSetting_7 : decode cX1_changeSetting 7 = .ok (.aload_n 0, 1) := by decide +kernel
theorem dX1_changeSetting_8 : decode cX1_changeSetting 8 = .ok (.getfield 41, 3) := by decide +kernel
theorem dX1_changeSetting_11 : decode cX1_changeSetting 11 = .ok (.iload_n 1, 1) := by decide +kernel
theorem dX1_changeSetting_12 : decode cX1_changeSetting 12 = .ok (.iload_n 2, 1) := by decide +kernel
theorem dX1_changeSetting_13 : decode cX1_changeSetting 13 = .ok (.iastore, 1) := by decide +kernel
theorem dX1_changeSetting_14 : decode cX1_changeSetting 14 = .ok (.aload_n 0, 1) := by decide +kernel
theorem dX1_changeSetting_15 : decode cX1_changeSetting 15 = .ok (.invokevirtual 89, 3) := by decide +kernel
theorem dX1_changeSetting_18 : decode cX1_changeSetting 18 = .ok (.iload_n 3, 1) := by decide +kernel
theorem dX1_changeSetting_19 : decode cX1_changeSetting 19 = .ok (.ireturn, 1) := by decide +kernel
theorem dX1_fitPhases_0 : decode cX1_fitPhases 0 = .ok (.iconst 0, 1) := by decide +kernel
theorem dX1_fitPhases_1 : decode cX1_fitPhases 1 = .ok (.istore_n 1, 1) := by decide +kernel
theorem dX1_fitPhases_2 : decode cX1_fitPhases 2 = .ok (.iload_n 1, 1) := by decide +kernel
theorem dX1_fitPhases_3 : decode cX1_fitPhases 3 = .ok (.bipush 16, 2) := by decide +kernel
theorem dX1_fitPhases_5 : decode cX1_fitPhases 5 = .ok (.if_icmp .ge 30, 3) := by decide +kernel
theorem dX1_fitPhases_8 : decode cX1_fitPhases 8 = .ok (.aload_n 0, 1) := by decide +kernel
theorem dX1_fitPhases_9 : decode cX1_fitPhases 9 = .ok (.getfield 9, 3) := by decide +kernel
theorem dX1_fitPhases_12 : decode cX1_fitPhases 12 = .ok (.iload_n 1, 1) := by decide +kernel
theorem dX1_fitPhases_13 : decode cX1_fitPhases 13 = .ok (.aload_n 0, 1) := by decide +kernel
theorem dX1_fitPhases_14 : decode cX1_fitPhases 14 = .ok (.getfield 9, 3) := by decide +kernel
theorem dX1_fitPhases_17 : decode cX1_fitPhases 17 = .ok (.iload_n 1, 1) := by decide +kernel
theorem dX1_fitPhases_18 : decode cX1_fitPhases 18 = .ok (.iaload, 1) := by decide +kernel
theorem dX1_fitPhases_19 : decode cX1_fitPhases 19 = .ok (.aload_n 0, 1) := by decide +kernel
theorem dX1_fitPhases_20 : decode cX1_fitPhases 20 = .ok (.invokevirtual 92, 3) := by decide +kernel
theorem dX1_fitPhases_23 : decode cX1_fitPhases 23 = .ok (.iconst 1, 1) := by decide +kernel
theorem dX1_fitPhases_24 : decode cX1_fitPhases 24 = .ok (.isub, 1) := by decide +kernel
theorem dX1_fitPhases_25 : decode cX1_fitPhases 25 = .ok (.invokestatic 96, 3) := by decide +kernel
theorem dX1_fitPhases_28 : decode cX1_fitPhases 28 = .ok (.iastore, 1) := by decide +kernel
theorem dX1_fitPhases_29 : decode cX1_fitPhases 29 = .ok (.iinc 1 1, 3) := by decide +kernel
theorem dX1_fitPhases_32 : decode cX1_fitPhases 32 = .ok (.goto (-30), 3) := by decide +kernel
theorem dX1_fitPhases_35 : decode cX1_fitPhases 35 = .ok (.return_, 1) := by decide +kernel
theorem dX1_fullPhase_0 : decode cX1_fullPhase 0 = .ok (.aload_n 0, 1) := by decide +kernel
theorem dX1_fullPhase_1 : decode cX1_fullPhase 1 = .ok (.getfield 41, 3) := by decide +kernel
theorem dX1_fullPhase_4 : decode cX1_fullPhase 4 = .ok (.iconst 0, 1) := by decide +kernel
theorem dX1_fullPhase_5 : decode cX1_fullPhase 5 = .ok (.iaload, 1) := by decide +kernel
theorem dX1_fullPhase_6 : decode cX1_fullPhase 6 = .ok (.bipush 100, 2) := by decide +kernel
theorem dX1_fullPhase_8 : decode cX1_fullPhase 8 = .ok (.imul, 1) := by decide +kernel
theorem dX1_fullPhase_9 : decode cX1_fullPhase 9 = .ok (.ireturn, 1) := by decide +kernel
theorem dX1_tickOften_0 : decode cX1_tickOften 0 = .ok (.iconst 0, 1) := by decide +kernel
theorem dX1_tickOften_1 : decode cX1_tickOften 1 = .ok (.istore_n 2, 1) := by decide +kernel
theorem dX1_tickOften_2 : decode cX1_tickOften 2 = .ok (.iload_n 2, 1) := by decide +kernel
theorem dX1_tickOften_3 : decode cX1_tickOften 3 = .ok (.iload_n 1, 1) := by decide +kernel
theorem dX1_tickOften_4 : decode cX1_tickOften 4 = .ok (.if_icmp .ge 14, 3) := by decide +kernel
theorem dX1_tickOften_7 : decode cX1_tickOften 7 = .ok (.aload_n 0, 1) := by decide +kernel
theorem dX1_tickOften_8 : decode cX1_tickOften 8 = .ok (.invokevirtual 102, 3) := by decide +kernel
theorem dX1_tickOften_11 : decode cX1_tickOften 11 = .ok (.pop, 1) := by decide +kernel
theorem dX1_tickOften_12 : decode cX1_tickOften 12 = .ok (.iinc 2 1, 3) := by decide +kernel
theorem dX1_tickOften_15 : decode cX1_tickOften 15 = .ok (.goto (-13), 3) := by decide +kernel
theorem dX1_tickOften_18 : decode cX1_tickOften 18 = .ok (.return_, 1) := by decide +kernel
theorem dX1_tickOnce_0 : decode cX1_tickOnce 0 = .ok (.iconst 0, 1) := by decide +kernel
theorem dX1_tickOnce_1 : decode cX1_tickOnce 1 = .ok (.istore_n 1, 1) := by decide +kernel
theorem dX1_tickOnce_2 : decode cX1_tickOnce 2 = .ok (.aload_n 0, 1) := by decide +kernel
theorem dX1_tickOnce_3 : decode cX1_tickOnce 3 = .ok (.invokevirtual 105, 3) := by decide +kernel
theorem dX1_tickOnce_6 : decode cX1_tickOnce 6 = .ok (.istore_n 2, 1) := by decide +kernel
theorem dX1_tickOnce_7 : decode cX1_tickOnce 7 = .ok (.iconst 0, 1) := by decide +kernel
theorem dX1_tickOnce_8 : decode cX1_tickOnce 8 = .ok (.istore_n 3, 1) := by decide +kernel
theorem dX1_tickOnce_9 : decode cX1_tickOnce 9 = .ok (.iload_n 3, 1) := by decide +kernel
theorem dX1_tickOnce_10 : decode cX1_tickOnce 10 = .ok (.bipush 16, 2) := by decide +kernel
theorem dX1_tickOnce_12 : decode cX1_tickOnce 12 = .ok (.if_icmp .ge 36, 3) := by decide +kernel
theorem dX1_tickOnce_15 : decode cX1_tickOnce 15 = .ok (.iload_n 2, 1) := by decide +kernel
theorem dX1_tickOnce_16 : decode cX1_tickOnce 16 = .ok (.ifCond .eq 32, 3) := by decide +kernel
theorem dX1_tickOnce_19 : decode cX1_tickOnce 19 = .ok (.iload_n 1, 1) := by decide +kernel
theorem dX1_tickOnce_20 : decode cX1_tickOnce 20 = .ok (.iload_n 2, 1) := by decide +kernel
theorem dX1_tickOnce_21 : decode cX1_tickOnce 21 = .ok (.ior, 1) := by decide +kernel
theorem dX1_tickOnce_22 : decode cX1_tickOnce 22 = .ok (.istore_n 1, 1) := by decide +kernel
theorem dX1_tickOnce_23 : decode cX1_tickOnce 23 = .ok (.aload_n 0, 1) := by decide +kernel
theorem dX1_tickOnce_24 : decode cX1_tickOnce 24 = .ok (.iload_n 2, 1) := by decide +kernel
theorem dX1_tickOnce_25 : decode cX1_tickOnce 25 = .ok (.invokevirtual 108, 3) := by decide +kernel
theorem dX1_tickOnce_28 : decode cX1_tickOnce 28 = .ok (.aload_n 0, 1) := by decide +kernel
theorem dX1_tickOnce_29 : decode cX1_tickOnce 29 = .ok (.iload_n 2, 1) := by decide +kernel
theorem dX1_tickOnce_30 : decode cX1_tickOnce 30 = .ok (.aload_n 0, 1) := by decide +kernel
theorem dX1_tickOnce_31 : decode cX1_tickOnce 31 = .ok (.getfield 54, 3) := by decide +kernel
theorem dX1_tickOnce_34 : decode cX1_tickOnce 34 = .ok (.iload_n 1, 1) := by decide +kernel
theorem dX1_tickOnce_35 : decode cX1_tickOnce 35 = .ok (.iconst (-1), 1) := by decide +kernel
theorem dX1_tickOnce_36 : decode cX1_tickOnce 36 = .ok (.ixor, 1) := by decide +kernel
theorem dX1_tickOnce_37 : decode cX1_tickOnce 37 = .ok (.iand, 1) := by decide +kernel
theorem dX1_tickOnce_38 : decode cX1_tickOnce 38 = .ok (.invokevirtual 112, 3) := by decide +kernel
theorem dX1_tickOnce_41 : decode cX1_tickOnce 41 = .ok (.istore_n 2, 1) := by decide +kernel
theorem dX1_tickOnce_42 : decode cX1_tickOnce 42 = .ok (.iinc 3 1, 3) := by decide +kernel
theorem dX1_tickOnce_45 : decode cX1_tickOnce 45 = .ok (.goto (-36), 3) := by decide +kernel
theorem dX1_tickOnce_48 : decode cX1_tickOnce 48 = .ok (.aload_n 0, 1) := by decide +kernel
theorem dX1_tickOnce_49 : decode cX1_tickOnce 49 = .ok (.dup, 1) := by decide +kernel
theorem dX1_tickOnce_50 : decode cX1_tickOnce 50 = .ok (.getfield 57, 3) := by decide +kernel
theorem dX1_tickOnce_53 : decode cX1_tickOnce 53 = .ok (.iconst 1, 1) := by decide +kernel
theorem dX1_tickOnce_54 : decode cX1_tickOnce 54 = .ok (.iadd, 1) := by decide +kernel
theorem dX1_tickOnce_55 : decode cX1_tickOnce 55 = .ok (.putfield 57, 3) := by decide +kernel
theorem dX1_tickOnce_58 : decode cX1_tickOnce 58 = .ok (.aload_n 0, 1) := by decide +kernel
theorem dX1_tickOnce_59 : decode cX1_tickOnce 59 = .ok (.iload_n 1, 1) := by decide +kernel
theorem dX1_tickOnce_60 : decode cX1_tickOnce 60 = .ok (.invokestatic 83, 3) := by decide +kernel
theorem dX1_tickOnce_63 : decode cX1_tickOnce 63 = .ok (.invokevirtual 115, 3) := by decide +kernel
theorem dX1_tickOnce_66 : decode cX1_tickOnce 66 = .ok (.iload_n 1, 1) := by decide +kernel
theorem dX1_tickOnce_67 : decode cX1_tickOnce 67 = .ok (.ireturn, 1) := by decide +kernel
theorem dX1_grow_0 : decode cX1_grow 0 = .ok (.aload_n 0, 1) := by decide +kernel
theorem dX1_grow_1 : decode cX1_grow 1 = .ok (.invokevirtual 92, 3) := by decide +kernel
theorem dX1_grow_4 : decode cX1_grow 4 = .ok (.istore_n 1, 1) := by decide +kernel
theorem dX1_grow_5 : decode cX1_grow 5 = .ok (.iconst 0, 1) := by decide +kernel
theorem dX1_grow_6 : decode cX1_grow 6 = .ok (.istore_n 2, 1) := by decide +kernel
theorem dX1_grow_7 : decode cX1_grow 7 = .ok (.iconst 0, 1) := by decide +kernel
theorem dX1_grow_8 : decode cX1_grow 8 = .ok (.istore_n 3, 1) := by decide +kernel
theorem dX1_grow_9 : decode cX1_grow 9 = .ok (.iload_n 3, 1) := by decide +kernel
theorem dX1_grow_10 : decode cX1_grow 10 = .ok (.bipush 16, 2) := by decide +kernel
theorem dX1_grow_12 : decode cX1_grow 12 = .ok (.if_icmp .ge 70, 3) := by decide +kernel
theorem dX1_grow_15 : decode cX1_grow 15 = .ok (.aload_n 0, 1) := by decide +kernel
theorem dX1_grow_16 : decode cX1_grow 16 = .ok (.getfield 54, 3) := by decide +kernel
theorem dX1_grow_19 : decode cX1_grow 19 = .ok (.iload_n 3, 1) := by decide +kernel
theorem dX1_grow_20 : decode cX1_grow 20 = .ok (.invokestatic 72, 3) := by decide +kernel
theorem dX1_grow_23 : decode cX1_grow 23 = .ok (.ifCond .eq 53, 3) := by decide +kernel
theorem dX1_grow_26 : decode cX1_grow 26 = .ok (.aload_n 0, 1) := by decide +kernel
theorem dX1_grow_27 : decode cX1_grow 27 = .ok (.getfield 9, 3) := by decide +kernel
theorem dX1_grow_30 : decode cX1_grow 30 = .ok (.iload_n 3, 1) := by decide +kernel
theorem dX1_grow_31 : decode cX1_grow 31 = .ok (.dup2, 1) := by decide +kernel
theorem dX1_grow_32 : decode cX1_grow 32 = .ok (.iaload, 1) := by decide +kernel
theorem dX1_grow_33 : decode cX1_grow 33 = .ok (.aload_n 0, 1) := by decide +kernel
theorem dX1_grow_34 : decode cX1_grow 34 = .ok (.getfield 15, 3) := by decide +kernel
theorem dX1_grow_37 : decode cX1_grow 37 = .ok (.iload_n 3, 1) := by decide +kernel
theorem dX1_grow_38 : decode cX1_grow 38 = .ok (.iaload, 1) := by decide +kernel
theorem dX1_grow_39 : decode cX1_grow 39 = .ok (.iadd, 1) := by decide +kernel
theorem dX1_grow_40 : decode cX1_grow 40 = .ok (.iastore, 1) := by decide +kernel
theorem dX1_grow_41 : decode cX1_grow 41 = .ok (.aload_n 0, 1) := by decide +kernel
theorem dX1_grow_42 : decode cX1_grow 42 = .ok (.getfield 18, 3) := by decide +kernel
theorem dX1_grow_45 : decode cX1_grow 45 = .ok (.iload_n 3, 1) := by decide +kernel
theorem dX1_grow_46 : decode cX1_grow 46 = .ok (.iaload, 1) := by decide +kernel
theorem dX1_grow_47 : decode cX1_grow 47 = .ok (.ifCond .le 13, 3) := by decide +kernel
theorem dX1_grow_50 : decode cX1_grow 50 = .ok (.aload_n 0, 1) := by decide +kernel
theorem dX1_grow_51 : decode cX1_grow 51 = .ok (.getfield 18, 3) := by decide +kernel
theorem dX1_grow_54 : decode cX1_grow 54 = .ok (.iload_n 3, 1) := by decide +kernel
theorem dX1_grow_55 : decode cX1_grow 55 = .ok (.dup2, 1) := by decide +kernel
theorem dX1_grow_56 : decode cX1_grow 56 = .ok (.iaload, 1) := by decide +kernel
theorem dX1_grow_57 : decode cX1_grow 57 = .ok (.iconst 1, 1) := by decide +kernel
theorem dX1_grow_58 : decode cX1_grow 58 = .ok (.isub, 1) := by decide +kernel
theorem dX1_grow_59 : decode cX1_grow 59 = .ok (.iastore, 1) := by decide +kernel
theorem dX1_grow_60 : decode cX1_grow 60 = .ok (.aload_n 0, 1) := by decide +kernel
theorem dX1_grow_61 : decode cX1_grow 61 = .ok (.getfield 9, 3) := by decide +kernel
theorem dX1_grow_64 : decode cX1_grow 64 = .ok (.iload_n 3, 1) := by decide +kernel
theorem dX1_grow_65 : decode cX1_grow 65 = .ok (.iaload, 1) := by decide +kernel
theorem dX1_grow_66 : decode cX1_grow 66 = .ok (.iload_n 1, 1) := by decide +kernel
theorem dX1_grow_67 : decode cX1_grow 67 = .ok (.if_icmp .lt 9, 3) := by decide +kernel
theorem dX1_grow_70 : decode cX1_grow 70 = .ok (.iload_n 2, 1) := by decide +kernel
theorem dX1_grow_71 : decode cX1_grow 71 = .ok (.iconst 1, 1) := by decide +kernel
theorem dX1_grow_72 : decode cX1_grow 72 = .ok (.iload_n 3, 1) := by decide +kernel
theorem dX1_grow_73 : decode cX1_grow 73 = .ok (.ishl, 1) := by decide +kernel
theorem dX1_grow_74 : decode cX1_grow 74 = .ok (.ior, 1) := by decide +kernel
theorem dX1_grow_75 : decode cX1_grow 75 = .ok (.istore_n 2, 1) := by decide +kernel
theorem dX1_grow_76 : decode cX1_grow 76 = .ok (.iinc 3 1, 3) := by decide +kernel
theorem dX1_grow_79 : decode cX1_grow 79 = .ok (.goto (-70), 3) := by decide +kernel
theorem dX1_grow_82 : decode cX1_grow 82 = .ok (.iload_n 2, 1) := by decide +kernel
theorem dX1_grow_83 : decode cX1_grow 83 = .ok (.ireturn, 1) := by decide +kernel
theorem dX1_blink_0 : decode cX1_blink 0 = .ok (.iconst 0, 1) := by decide +kernel
theorem dX1_blink_1 : decode cX1_blink 1 = .ok (.istore_n 2, 1) := by decide +kernel
theorem dX1_blink_2 : decode cX1_blink 2 = .ok (.iload_n 2, 1) := by decide +kernel
theorem dX1_blink_3 : decode cX1_blink 3 = .ok (.bipush 16, 2) := by decide +kernel
theorem dX1_blink_5 : decode cX1_blink 5 = .ok (.if_icmp .ge 58, 3) := by decide +kernel
theorem dX1_blink_8 : decode cX1_blink 8 = .ok (.iload_n 1, 1) := by decide +kernel
theorem dX1_blink_9 : decode cX1_blink 9 = .ok (.iload_n 2, 1) := by decide +kernel
theorem dX1_blink_10 : decode cX1_blink 10 = .ok (.invokestatic 72, 3) := by decide +kernel
theorem dX1_blink_13 : decode cX1_blink 13 = .ok (.ifCond .eq 44, 3) := by decide +kernel
theorem dX1_blink_16 : decode cX1_blink 16 = .ok (.aload_n 0, 1) := by decide +kernel
theorem dX1_blink_17 : decode cX1_blink 17 = .ok (.getfield 9, 3) := by decide +kernel
theorem dX1_blink_20 : decode cX1_blink 20 = .ok (.iload_n 2, 1) := by decide +kernel
theorem dX1_blink_21 : decode cX1_blink 21 = .ok (.iconst 0, 1) := by decide +kernel
theorem dX1_blink_22 : decode cX1_blink 22 = .ok (.iastore, 1) := by decide +kernel
theorem dX1_blink_23 : decode cX1_blink 23 = .ok (.aload_n 0, 1) := by decide +kernel
theorem dX1_blink_24 : decode cX1_blink 24 = .ok (.getfield 18, 3) := by decide +kernel
theorem dX1_blink_27 : decode cX1_blink 27 = .ok (.iload_n 2, 1) := by decide +kernel
theorem dX1_blink_28 : decode cX1_blink 28 = .ok (.aload_n 0, 1) := by decide +kernel
theorem dX1_blink_29 : decode cX1_blink 29 = .ok (.getfield 41, 3) := by decide +kernel
theorem dX1_blink_32 : decode cX1_blink 32 = .ok (.iconst 2, 1) := by decide +kernel
theorem dX1_blink_33 : decode cX1_blink 33 = .ok (.iaload, 1) := by decide +kernel
theorem dX1_blink_34 : decode cX1_blink 34 = .ok (.iastore, 1) := by decide +kernel
theorem dX1_blink_35 : decode cX1_blink 35 = .ok (.aload_n 0, 1) := by decide +kernel
theorem dX1_blink_36 : decode cX1_blink 36 = .ok (.getfield 24, 3) := by decide +kernel
theorem dX1_blink_39 : decode cX1_blink 39 = .ok (.iload_n 2, 1) := by decide +kernel
theorem dX1_blink_40 : decode cX1_blink 40 = .ok (.dup2, 1) := by decide +kernel
theorem dX1_blink_41 : decode cX1_blink 41 = .ok (.iaload, 1) := by decide +kernel
theorem dX1_blink_42 : decode cX1_blink 42 = .ok (.iconst 1, 1) := by decide +kernel
theorem dX1_blink_43 : decode cX1_blink 43 = .ok (.iadd, 1) := by decide +kernel
theorem dX1_blink_44 : decode cX1_blink 44 = .ok (.iastore, 1) := by decide +kernel
theorem dX1_blink_45 : decode cX1_blink 45 = .ok (.aload_n 0, 1) := by decide +kernel
theorem dX1_blink_46 : decode cX1_blink 46 = .ok (.getfield 27, 3) := by decide +kernel
theorem dX1_blink_49 : decode cX1_blink 49 = .ok (.iload_n 2, 1) := by decide +kernel
theorem dX1_blink_50 : decode cX1_blink 50 = .ok (.aload_n 0, 1) := by decide +kernel
theorem dX1_blink_51 : decode cX1_blink 51 = .ok (.getfield 57, 3) := by decide +kernel
theorem dX1_blink_54 : decode cX1_blink 54 = .ok (.iconst 1, 1) := by decide +kernel
theorem dX1_blink_55 : decode cX1_blink 55 = .ok (.iadd, 1) := by decide +kernel
theorem dX1_blink_56 : decode cX1_blink 56 = .ok (.iastore, 1) := by decide +kernel
theorem dX1_blink_57 : decode cX1_blink 57 = .ok (.iinc 2 1, 3) := by decide +kernel
theorem dX1_blink_60 : decode cX1_blink 60 = .ok (.goto (-58), 3) := by decide +kernel
theorem dX1_blink_63 : decode cX1_blink 63 = .ok (.return_, 1) := by decide +kernel
theorem dX1_pushFrom_0 : decode cX1_pushFrom 0 = .ok (.iconst 0, 1) := by decide +kernel
theorem dX1_pushFrom_1 : decode cX1_pushFrom 1 = .ok (.istore_n 3, 1) := by decide +kernel
theorem dX1_pushFrom_2 : decode cX1_pushFrom 2 = .ok (.iconst 0, 1) := by decide +kernel
theorem dX1_pushFrom_3 : decode cX1_pushFrom 3 = .ok (.istore 4, 2) := by decide +kernel
theorem dX1_pushFrom_5 : decode cX1_pushFrom 5 = .ok (.iload 4, 2) := by decide +kernel
theorem dX1_pushFrom_7 : decode cX1_pushFrom 7 = .ok (.bipush 16, 2) := by decide +kernel
theorem dX1_pushFrom_9 : decode cX1_pushFrom 9 = .ok (.if_icmp .ge 34, 3) := by decide +kernel
theorem dX1_pushFrom_12 : decode cX1_pushFrom 12 = .ok (.iload_n 1, 1) := by decide +kernel
theorem dX1_pushFrom_13 : decode cX1_pushFrom 13 = .ok (.iload 4, 2) := by decide +kernel
theorem dX1_pushFrom_15 : decode cX1_pushFrom 15 = .ok (.invokestatic 72, 3) := by decide +kernel
theorem dX1_pushFrom_18 : decode cX1_pushFrom 18 = .ok (.ifCond .eq 19, 3) := by decide +kernel
theorem dX1_pushFrom_21 : decode cX1_pushFrom 21 = .ok (.iload_n 3, 1) := by decide +kernel
theorem dX1_pushFrom_22 : decode cX1_pushFrom 22 = .ok (.aload_n 0, 1) := by decide +kernel
theorem dX1_pushFrom_23 : decode cX1_pushFrom 23 = .ok (.aload_n 0, 1) := by decide +kernel
theorem dX1_pushFrom_24 : decode cX1_pushFrom 24 = .ok (.getfield 21, 3) := by decide +kernel
theorem dX1_pushFrom_27 : decode cX1_pushFrom 27 = .ok (.iload 4, 2) := by decide +kernel
theorem dX1_pushFrom_29 : decode cX1_pushFrom 29 = .ok (.iaload, 1) := by decide +kernel
theorem dX1_pushFrom_30 : decode cX1_pushFrom 30 = .ok (.iload_n 2, 1) := by decide +kernel
theorem dX1_pushFrom_31 : decode cX1_pushFrom 31 = .ok (.iand, 1) := by decide +kernel
theorem dX1_pushFrom_32 : decode cX1_pushFrom 32 = .ok (.invokevirtual 118, 3) := by decide +kernel
theorem dX1_pushFrom_35 : decode cX1_pushFrom 35 = .ok (.ior, 1) := by decide +kernel
theorem dX1_pushFrom_36 : decode cX1_pushFrom 36 = .ok (.istore_n 3, 1) := by decide +kernel
theorem dX1_pushFrom_37 : decode cX1_pushFrom 37 = .ok (.iinc 4 1, 3) := by decide +kernel
theorem dX1_pushFrom_40 : decode cX1_pushFrom 40 = .ok (.goto (-35), 3) := by decide +kernel
theorem dX1_pushFrom_43 : decode cX1_pushFrom 43 = .ok (.iload_n 3, 1) := by decide +kernel
theorem dX1_pushFrom_44 : decode cX1_pushFrom 44 = .ok (.ireturn, 1) := by decide +kernel
theorem dX1_pushAll_0 : decode cX1_pushAll 0 = .ok (.aload_n 0, 1) := by decide +kernel
theorem dX1_pushAll_1 : decode cX1_pushAll 1 = .ok (.invokevirtual 92, 3) := by decide +kernel
theorem dX1_pushAll_4 : decode cX1_pushAll 4 = .ok (.istore_n 2, 1) := by decide +kernel
theorem dX1_pushAll_5 : decode cX1_pushAll 5 = .ok (.iconst 0, 1) := by decide +kernel
theorem dX1_pushAll_6 : decode cX1_pushAll 6 = .ok (.istore_n 3, 1) := by decide +kernel
theorem dX1_pushAll_7 : decode cX1_pushAll 7 = .ok (.iconst 0, 1) := by decide +kernel
theorem dX1_pushAll_8 : decode cX1_pushAll 8 = .ok (.istore 4, 2) := by decide +kernel
theorem dX1_pushAll_10 : decode cX1_pushAll 10 = .ok (.iload 4, 2) := by decide +kernel
theorem dX1_pushAll_12 : decode cX1_pushAll 12 = .ok (.bipush 16, 2) := by decide +kernel
theorem dX1_pushAll_14 : decode cX1_pushAll 14 = .ok (.if_icmp .ge 102, 3) := by decide +kernel
theorem dX1_pushAll_17 : decode cX1_pushAll 17 = .ok (.iload_n 1, 1) := by decide +kernel
theorem dX1_pushAll_18 : decode cX1_pushAll 18 = .ok (.iload 4, 2) := by decide +kernel
theorem dX1_pushAll_20 : decode cX1_pushAll 20 = .ok (.invokestatic 72, 3) := by decide +kernel
theorem dX1_pushAll_23 : decode cX1_pushAll 23 = .ok (.ifCond .eq 87, 3) := by decide +kernel
theorem dX1_pushAll_26 : decode cX1_pushAll 26 = .ok (.aload_n 0, 1) := by decide +kernel
theorem dX1_pushAll_27 : decode cX1_pushAll 27 = .ok (.getfield 18, 3) := by decide +kernel
theorem dX1_pushAll_30 : decode cX1_pushAll 30 = .ok (.iload 4, 2) := by decide +kernel
theorem dX1_pushAll_32 : decode cX1_pushAll 32 = .ok (.iaload, 1) := by decide +kernel
theorem dX1_pushAll_33 : decode cX1_pushAll 33 = .ok (.ifCond .ne 77, 3) := by decide +kernel
theorem dX1_pushAll_36 : decode cX1_pushAll 36 = .ok (.aload_n 0, 1) := by decide +kernel
theorem dX1_pushAll_37 : decode cX1_pushAll 37 = .ok (.getfield 9, 3) := by decide +kernel
theorem dX1_pushAll_40 : decode cX1_pushAll 40 = .ok (.iload 4, 2) := by decide +kernel
theorem dX1_pushAll_42 : decode cX1_pushAll 42 = .ok (.iaload, 1) := by decide +kernel
theorem dX1_pushAll_43 : decode cX1_pushAll 43 = .ok (.aload_n 0, 1) := by decide +kernel
theorem dX1_pushAll_44 : decode cX1_pushAll 44 = .ok (.getfield 9, 3) := by decide +kernel
theorem dX1_pushAll_47 : decode cX1_pushAll 47 = .ok (.iload 4, 2) := by decide +kernel
theorem dX1_pushAll_49 : decode cX1_pushAll 49 = .ok (.iaload, 1) := by decide +kernel
theorem dX1_pushAll_50 : decode cX1_pushAll 50 = .ok (.aload_n 0, 1) := by decide +kernel
theorem dX1_pushAll_51 : decode cX1_pushAll 51 = .ok (.getfield 41, 3) := by decide +kernel
theorem dX1_pushAll_54 : decode cX1_pushAll 54 = .ok (.iconst 1, 1) := by decide +kernel
theorem dX1_pushAll_55 : decode cX1_pushAll 55 = .ok (.iaload, 1) := by decide +kernel
theorem dX1_pushAll_56 : decode cX1_pushAll 56 = .ok (.imul, 1) := by decide +kernel
theorem dX1_pushAll_57 : decode cX1_pushAll 57 = .ok (.bipush 100, 2) := by decide +kernel
theorem dX1_pushAll_59 : decode cX1_pushAll 59 = .ok (.idiv, 1) := by decide +kernel
theorem dX1_pushAll_60 : decode cX1_pushAll 60 = .ok (.iadd, 1) := by decide +kernel
theorem dX1_pushAll_61 : decode cX1_pushAll 61 = .ok (.istore 5, 2) := by decide +kernel
theorem dX1_pushAll_63 : decode cX1_pushAll 63 = .ok (.aload_n 0, 1) := by decide +kernel
theorem dX1_pushAll_64 : decode cX1_pushAll 64 = .ok (.getfield 9, 3) := by decide +kernel
theorem dX1_pushAll_67 : decode cX1_pushAll 67 = .ok (.iload 4, 2) := by decide +kernel
theorem dX1_pushAll_69 : decode cX1_pushAll 69 = .ok (.iload 5, 2) := by decide +kernel
theorem dX1_pushAll_71 : decode cX1_pushAll 71 = .ok (.iload_n 2, 1) := by decide +kernel
theorem dX1_pushAll_72 : decode cX1_pushAll 72 = .ok (.invokestatic 96, 3) := by decide +kernel
theorem dX1_pushAll_75 : decode cX1_pushAll 75 = .ok (.iastore, 1) := by decide +kernel
theorem dX1_pushAll_76 : decode cX1_pushAll 76 = .ok (.aload_n 0, 1) := by decide +kernel
theorem dX1_pushAll_77 : decode cX1_pushAll 77 = .ok (.getfield 30, 3) := by decide +kernel
theorem dX1_pushAll_80 : decode cX1_pushAll 80 = .ok (.iload 4, 2) := by decide +kernel
theorem dX1_pushAll_82 : decode cX1_pushAll 82 = .ok (.dup2, 1) := by decide +kernel
theorem dX1_pushAll_83 : decode cX1_pushAll 83 = .ok (.iaload, 1) := by decide +kernel
theorem dX1_pushAll_84 : decode cX1_pushAll 84 = .ok (.iconst 1, 1) := by decide +kernel
theorem dX1_pushAll_85 : decode cX1_pushAll 85 = .ok (.iadd, 1) := by decide +kernel
theorem dX1_pushAll_86 : decode cX1_pushAll 86 = .ok (.iastore, 1) := by decide +kernel
theorem dX1_pushAll_87 : decode cX1_pushAll 87 = .ok (.aload_n 0, 1) := by decide +kernel
theorem dX1_pushAll_88 : decode cX1_pushAll 88 = .ok (.dup, 1) := by decide +kernel
theorem dX1_pushAll_89 : decode cX1_pushAll 89 = .ok (.getfield 63, 3) := by decide +kernel
theorem dX1_pushAll_92 : decode cX1_pushAll 92 = .ok (.iconst 1, 1) := by decide +kernel
theorem dX1_pushAll_93 : decode cX1_pushAll 93 = .ok (.iadd, 1) := by decide +kernel
theorem dX1_pushAll_94 : decode cX1_pushAll 94 = .ok (.putfield 63, 3) := by decide +kernel
theorem dX1_pushAll_97 : decode cX1_pushAll 97 = .ok (.iload 5, 2) := by decide +kernel
theorem dX1_pushAll_99 : decode cX1_pushAll 99 = .ok (.iload_n 2, 1) := by decide +kernel
theorem dX1_pushAll_100 : decode cX1_pushAll 100 = .ok (.if_icmp .lt 10, 3) := by decide +kernel
theorem dX1_pushAll_103 : decode cX1_pushAll 103 = .ok (.iload_n 3, 1) := by decide +kernel
theorem dX1_pushAll_104 : decode cX1_pushAll 104 = .ok (.iconst 1, 1) := by decide +kernel
theorem dX1_pushAll_105 : decode cX1_pushAll 105 = .ok (.iload 4, 2) := by decide +kernel
theorem dX1_pushAll_107 : decode cX1_pushAll 107 = .ok (.ishl, 1) := by decide +kernel
theorem dX1_pushAll_108 : decode cX1_pushAll 108 = .ok (.ior, 1) := by decide +kernel
theorem dX1_pushAll_109 : decode cX1_pushAll 109 = .ok (.istore_n 3, 1) := by decide +kernel
theorem dX1_pushAll_110 : decode cX1_pushAll 110 = .ok (.iinc 4 1, 3) := by decide +kernel
theorem dX1_pushAll_113 : decode cX1_pushAll 113 = .ok (.goto (-103), 3) := by decide +kernel
theorem dX1_pushAll_116 : decode cX1_pushAll 116 = .ok (.iload_n 3, 1) := by decide +kernel
theorem dX1_pushAll_117 : decode cX1_pushAll 117 = .ok (.ireturn, 1) := by decide +kernel
theorem dX1_account_0 : decode cX1_account 0 = .ok (.aload_n 0, 1) := by decide +kernel
theorem dX1_account_1 : decode cX1_account 1 = .ok (.dup, 1) := by decide +kernel
theorem dX1_account_2 : decode cX1_account 2 = .ok (.getfield 60, 3) := by decide +kernel
theorem dX1_account_5 : decode cX1_account 5 = .ok (.iload_n 1, 1) := by decide +kernel
theorem dX1_account_6 : decode cX1_account 6 = .ok (.iadd, 1) := by decide +kernel
theorem dX1_account_7 : decode cX1_account 7 = .ok (.putfield 60, 3) := by decide +kernel
theorem dX1_account_10 : decode cX1_account 10 = .ok (.iload_n 1, 1) := by decide +kernel
theorem dX1_account_11 : decode cX1_account 11 = .ok (.iconst 2, 1) := by decide +kernel
theorem dX1_account_12 : decode cX1_account 12 = .ok (.if_icmp .lt 25, 3) := by decide +kernel
theorem dX1_account_15 : decode cX1_account 15 = .ok (.aload_n 0, 1) := by decide +kernel
theorem dX1_account_16 : decode cX1_account 16 = .ok (.dup, 1) := by decide +kernel
theorem dX1_account_17 : decode cX1_account 17 = .ok (.getfield 66, 3) := by decide +kernel
theorem dX1_account_20 : decode cX1_account 20 = .ok (.iconst 1, 1) := by decide +kernel
theorem dX1_account_21 : decode cX1_account 21 = .ok (.iadd, 1) := by decide +kernel
theorem dX1_account_22 : decode cX1_account 22 = .ok (.putfield 66, 3) := by decide +kernel
theorem dX1_account_25 : decode cX1_account 25 = .ok (.aload_n 0, 1) := by decide +kernel
theorem dX1_account_26 : decode cX1_account 26 = .ok (.aload_n 0, 1) := by decide +kernel
theorem dX1_account_27 : decode cX1_account 27 = .ok (.getfield 69, 3) := by decide +kernel
theorem dX1_account_30 : decode cX1_account 30 = .ok (.iload_n 1, 1) := by decide +kernel
theorem dX1_account_31 : decode cX1_account 31 = .ok (.invokestatic 121, 3) := by decide +kernel
theorem dX1_account_34 : decode cX1_account 34 = .ok (.putfield 69, 3) := by decide +kernel
theorem dX1_account_37 : decode cX1_account 37 = .ok (.return_, 1) := by decide +kernel
theorem dX1_distance_0 : decode cX1_distance 0 = .ok (.aload_n 0, 1) := by decide +kernel
theorem dX1_distance_1 : decode cX1_distance 1 = .ok (.getfield 9, 3) := by decide +kernel
theorem dX1_distance_4 : decode cX1_distance 4 = .ok (.iload_n 1, 1) := by decide +kernel
theorem dX1_distance_5 : decode cX1_distance 5 = .ok (.iaload, 1) := by decide +kernel
theorem dX1_distance_6 : decode cX1_distance 6 = .ok (.aload_n 0, 1) := by decide +kernel
theorem dX1_distance_7 : decode cX1_distance 7 = .ok (.getfield 9, 3) := by decide +kernel
theorem dX1_distance_10 : decode cX1_distance 10 = .ok (.iload_n 2, 1) := by decide +kernel
theorem dX1_distance_11 : decode cX1_distance 11 = .ok (.iaload, 1) := by decide +kernel
theorem dX1_distance_12 : decode cX1_distance 12 = .ok (.isub, 1) := by decide +kernel
theorem dX1_distance_13 : decode cX1_distance 13 = .ok (.invokestatic 124, 3) := by decide +kernel
theorem dX1_distance_16 : decode cX1_distance 16 = .ok (.istore_n 3, 1) := by decide +kernel
theorem dX1_distance_17 : decode cX1_distance 17 = .ok (.iload_n 3, 1) := by decide +kernel
theorem dX1_distance_18 : decode cX1_distance 18 = .ok (.aload_n 0, 1) := by decide +kernel
theorem dX1_distance_19 : decode cX1_distance 19 = .ok (.invokevirtual 92, 3) := by decide +kernel
theorem dX1_distance_22 : decode cX1_distance 22 = .ok (.iload_n 3, 1) := by decide +kernel
theorem dX1_distance_23 : decode cX1_distance 23 = .ok (.isub, 1) := by decide +kernel
theorem dX1_distance_24 : decode cX1_distance 24 = .ok (.invokestatic 96, 3) := by decide +kernel
theorem dX1_distance_27 : decode cX1_distance 27 = .ok (.ireturn, 1) := by decide +kernel
theorem dX1_greatestDistance_0 : decode cX1_greatestDistance 0 = .ok (.iconst 0, 1) := by decide +kernel
theorem dX1_greatestDistance_1 : decode cX1_greatestDistance 1 = .ok (.istore_n 1, 1) := by decide +kernel
theorem dX1_greatestDistance_2 : decode cX1_greatestDistance 2 = .ok (.iconst 0, 1) := by decide +kernel
theorem dX1_greatestDistance_3 : decode cX1_greatestDistance 3 = .ok (.istore_n 2, 1) := by decide +kernel
theorem dX1_greatestDistance_4 : decode cX1_greatestDistance 4 = .ok (.iload_n 2, 1) := by decide +kernel
theorem dX1_greatestDistance_5 : decode cX1_greatestDistance 5 = .ok (.bipush 16, 2) := by decide +kernel
theorem dX1_greatestDistance_7 : decode cX1_greatestDistance 7 = .ok (.if_icmp .ge 52, 3) := by decide +kernel
theorem dX1_greatestDistance_10 : decode cX1_greatestDistance 10 = .ok (.iload_n 2, 1) := by decide +kernel
theorem dX1_greatestDistance_11 : decode cX1_greatestDistance 11 = .ok (.iconst 1, 1) := by decide +kernel
theorem dX1_greatestDistance_12 : decode cX1_greatestDistance 12 = .ok (.iadd, 1) := by decide +kernel
theorem dX1_greatestDistance_13 : decode cX1_greatestDistance 13 = .ok (.istore_n 3, 1) := by decide +kernel
theorem dX1_greatestDistance_14 : decode cX1_greatestDistance 14 = .ok (.iload_n 3, 1) := by decide +kernel
theorem dX1_greatestDistance_15 : decode cX1_greatestDistance 15 = .ok (.bipush 16, 2) := by decide +kernel
theorem dX1_greatestDistance_17 : decode cX1_greatestDistance 17 = .ok (.if_icmp .ge 36, 3) := by decide +kernel
theorem dX1_greatestDistance_20 : decode cX1_greatestDistance 20 = .ok (.aload_n 0, 1) := by decide +kernel
theorem dX1_greatestDistance_21 : decode cX1_greatestDistance 21 = .ok (.iload_n 2, 1) := by decide +kernel
theorem dX1_greatestDistance_22 : decode cX1_greatestDistance 22 = .ok (.invokevirtual 76, 3) := by decide +kernel
theorem dX1_greatestDistance_25 : decode cX1_greatestDistance 25 = .ok (.ifCond .eq 22, 3) := by decide +kernel
theorem dX1_greatestDistance_28 : decode cX1_greatestDistance 28 = .ok (.aload_n 0, 1) := by decide +kernel
theorem dX1_greatestDistance_29 : decode cX1_greatestDistance 29 = .ok (.iload_n 3, 1) := by decide +kernel
theorem dX1_greatestDistance_30 : decode cX1_greatestDistance 30 = .ok (.invokevirtual 76, 3) := by decide +kernel
theorem dX1_greatestDistance_33 : decode cX1_greatestDistance 33 = .ok (.ifCond .eq 14, 3) := by decide +kernel
theorem dX1_greatestDistance_36 : decode cX1_greatestDistance 36 = .ok (.iload_n 1, 1) := by decide +kernel
theorem dX1_greatestDistance_37 : decode cX1_greatestDistance 37 = .ok (.aload_n 0, 1) := by decide +kernel
theorem dX1_greatestDistance_38 : decode cX1_greatestDistance 38 = .ok (.iload_n 2, 1) := by decide +kernel
theorem dX1_greatestDistance_39 : decode cX1_greatestDistance 39 = .ok (.iload_n 3, 1) := by decide +kernel
theorem dX1_greatestDistance_40 : decode cX1_greatestDistance 40 = .ok (.invokevirtual 127, 3) := by decide +kernel
theorem dX1_greatestDistance_43 : decode cX1_greatestDistance 43 = .ok (.invokestatic 121, 3) := by decide +kernel
theorem dX1_greatestDistance_46 : decode cX1_greatestDistance 46 = .ok (.istore_n 1, 1) := by decide +kernel
theorem dX1_greatestDistance_47 : decode cX1_greatestDistance 47 = .ok (.iinc 3 1, 3) := by decide +kernel
theorem dX1_greatestDistance_50 : decode cX1_greatestDistance 50 = .ok (.goto (-36), 3) := by decide +kernel
theorem dX1_greatestDistance_53 : decode cX1_greatestDistance 53 = .ok (.iinc 2 1, 3) := by decide +kernel
theorem dX1_greatestDistance_56 : decode cX1_greatestDistance 56 = .ok (.goto (-52), 3) := by decide +kernel
theorem dX1_greatestDistance_59 : decode cX1_greatestDistance 59 = .ok (.iload_n 1, 1) := by decide +kernel
theorem dX1_greatestDistance_60 : decode cX1_greatestDistance 60 = .ok (.ireturn, 1) := by decide +kernel
theorem dX1_isTogether_0 : decode cX1_isTogether 0 = .ok (.iconst (-1), 1) := by decide +kernel
theorem dX1_isTogether_1 : decode cX1_isTogether 1 = .ok (.istore_n 1, 1) := by decide +kernel
theorem dX1_isTogether_2 : decode cX1_isTogether 2 = .ok (.iconst 0, 1) := by decide +kernel
theorem dX1_isTogether_3 : decode cX1_isTogether 3 = .ok (.istore_n 2, 1) := by decide +kernel
theorem dX1_isTogether_4 : decode cX1_isTogether 4 = .ok (.iload_n 2, 1) := by decide +kernel
theorem dX1_isTogether_5 : decode cX1_isTogether 5 = .ok (.bipush 16, 2) := by decide +kernel
theorem dX1_isTogether_7 : decode cX1_isTogether 7 = .ok (.if_icmp .ge 47, 3) := by decide +kernel
theorem dX1_isTogether_10 : decode cX1_isTogether 10 = .ok (.aload_n 0, 1) := by decide +kernel
theorem dX1_isTogether_11 : decode cX1_isTogether 11 = .ok (.getfield 54, 3) := by decide +kernel
theorem dX1_isTogether_14 : decode cX1_isTogether 14 = .ok (.iload_n 2, 1) := by decide +kernel
theorem dX1_isTogether_15 : decode cX1_isTogether 15 = .ok (.invokestatic 72, 3) := by decide +kernel
theorem dX1_isTogether_18 : decode cX1_isTogether 18 = .ok (.ifCond .eq 30, 3) := by decide +kernel
theorem dX1_isTogether_21 : decode cX1_isTogether 21 = .ok (.iload_n 1, 1) := by decide +kernel
theorem dX1_isTogether_22 : decode cX1_isTogether 22 = .ok (.iconst (-1), 1) := by decide +kernel
theorem dX1_isTogether_23 : decode cX1_isTogether 23 = .ok (.if_icmp .ne 8, 3) := by decide +kernel
theorem dX1_isTogether_26 : decode cX1_isTogether 26 = .ok (.iload_n 2, 1) := by decide +kernel
theorem dX1_isTogether_27 : decode cX1_isTogether 27 = .ok (.istore_n 1, 1) := by decide +kernel
theorem dX1_isTogether_28 : decode cX1_isTogether 28 = .ok (.goto 20, 3) := by decide +kernel
theorem dX1_isTogether_31 : decode cX1_isTogether 31 = .ok (.aload_n 0, 1) := by decide +kernel
theorem dX1_isTogether_32 : decode cX1_isTogether 32 = .ok (.getfield 9, 3) := by decide +kernel
theorem dX1_isTogether_35 : decode cX1_isTogether 35 = .ok (.iload_n 2, 1) := by decide +kernel
theorem dX1_isTogether_36 : decode cX1_isTogether 36 = .ok (.iaload, 1) := by decide +kernel
theorem dX1_isTogether_37 : decode cX1_isTogether 37 = .ok (.aload_n 0, 1) := by decide +kernel
theorem dX1_isTogether_38 : decode cX1_isTogether 38 = .ok (.getfield 9, 3) := by decide +kernel
theorem dX1_isTogether_41 : decode cX1_isTogether 41 = .ok (.iload_n 1, 1) := by decide +kernel
theorem dX1_isTogether_42 : decode cX1_isTogether 42 = .ok (.iaload, 1) := by decide +kernel
theorem dX1_isTogether_43 : decode cX1_isTogether 43 = .ok (.if_icmp .eq 5, 3) := by decide +kernel
theorem dX1_isTogether_46 : decode cX1_isTogether 46 = .ok (.iconst 0, 1) := by decide +kernel
theorem dX1_isTogether_47 : decode cX1_isTogether 47 = .ok (.ireturn, 1) := by decide +kernel
theorem dX1_isTogether_48 : decode cX1_isTogether 48 = .ok (.iinc 2 1, 3) := by decide +kernel
theorem dX1_isTogether_51 : decode cX1_isTogether 51 = .ok (.goto (-47), 3) := by decide +kernel
theorem dX1_isTogether_54 : decode cX1_isTogether 54 = .ok (.aload_n 0, 1) := by decide +kernel
theorem dX1_isTogether_55 : decode cX1_isTogether 55 = .ok (.getfield 54, 3) := by decide +kernel
theorem dX1_isTogether_58 : decode cX1_isTogether 58 = .ok (.ifCond .eq 7, 3) := by decide +kernel
theorem dX1_isTogether_61 : decode cX1_isTogether 61 = .ok (.iconst 1, 1) := by decide +kernel
theorem dX1_isTogether_62 : decode cX1_isTogether 62 = .ok (.goto 4, 3) := by decide +kernel
theorem dX1_isTogether_65 : decode cX1_isTogether 65 = .ok (.iconst 0, 1) := by decide +kernel
theorem dX1_isTogether_66 : decode cX1_isTogether 66 = .ok (.ireturn, 1) := by decide +kernel
theorem dX1_hasUnlikeRates_0 : decode cX1_hasUnlikeRates 0 = .ok (.iconst (-1), 1) := by decide +kernel
theorem dX1_hasUnlikeRates_1 : decode cX1_hasUnlikeRates 1 = .ok (.istore_n 1, 1) := by decide +kernel
theorem dX1_hasUnlikeRates_2 : decode cX1_hasUnlikeRates 2 = .ok (.iconst 0, 1) := by decide +kernel
theorem dX1_hasUnlikeRates_3 : decode cX1_hasUnlikeRates 3 = .ok (.istore_n 2, 1) := by decide +kernel
theorem dX1_hasUnlikeRates_4 : decode cX1_hasUnlikeRates 4 = .ok (.iload_n 2, 1) := by decide +kernel
theorem dX1_hasUnlikeRates_5 : decode cX1_hasUnlikeRates 5 = .ok (.bipush 16, 2) := by decide +kernel
theorem dX1_hasUnlikeRates_7 : decode cX1_hasUnlikeRates 7 = .ok (.if_icmp .ge 47, 3) := by decide +kernel
theorem dX1_hasUnlikeRates_10 : decode cX1_hasUnlikeRates 10 = .ok (.aload_n 0, 1) := by decide +kernel
theorem dX1_hasUnlikeRates_11 : decode cX1_hasUnlikeRates 11 = .ok (.getfield 54, 3) := by decide +kernel
theorem dX1_hasUnlikeRates_14 : decode cX1_hasUnlikeRates 14 = .ok (.iload_n 2, 1) := by decide +kernel
theorem dX1_hasUnlikeRates_15 : decode cX1_hasUnlikeRates 15 = .ok (.invokestatic 72, 3) := by decide +kernel
theorem dX1_hasUnlikeRates_18 : decode cX1_hasUnlikeRates 18 = .ok (.ifCond .eq 30, 3) := by decide +kernel
theorem dX1_hasUnlikeRates_21 : decode cX1_hasUnlikeRates 21 = .ok (.iload_n 1, 1) := by decide +kernel
theorem dX1_hasUnlikeRates_22 : decode cX1_hasUnlikeRates 22 = .ok (.iconst (-1), 1) := by decide +kernel
theorem dX1_hasUnlikeRates_23 : decode cX1_hasUnlikeRates 23 = .ok (.if_icmp .ne 8, 3) := by decide +kernel
theorem dX1_hasUnlikeRates_26 : decode cX1_hasUnlikeRates 26 = .ok (.iload_n 2, 1) := by decide +kernel
theorem dX1_hasUnlikeRates_27 : decode cX1_hasUnlikeRates 27 = .ok (.istore_n 1, 1) := by decide +kernel
theorem dX1_hasUnlikeRates_28 : decode cX1_hasUnlikeRates 28 = .ok (.goto 20, 3) := by decide +kernel
theorem dX1_hasUnlikeRates_31 : decode cX1_hasUnlikeRates 31 = .ok (.aload_n 0, 1) := by decide +kernel
theorem dX1_hasUnlikeRates_32 : decode cX1_hasUnlikeRates 32 = .ok (.getfield 15, 3) := by decide +kernel
theorem dX1_hasUnlikeRates_35 : decode cX1_hasUnlikeRates 35 = .ok (.iload_n 2, 1) := by decide +kernel
theorem dX1_hasUnlikeRates_36 : decode cX1_hasUnlikeRates 36 = .ok (.iaload, 1) := by decide +kernel
theorem dX1_hasUnlikeRates_37 : decode cX1_hasUnlikeRates 37 = .ok (.aload_n 0, 1) := by decide +kernel
theorem dX1_hasUnlikeRates_38 : decode cX1_hasUnlikeRates 38 = .ok (.getfield 15, 3) := by decide +kernel
theorem dX1_hasUnlikeRates_41 : decode cX1_hasUnlikeRates 41 = .ok (.iload_n 1, 1) := by decide +kernel
theorem dX1_hasUnlikeRates_42 : decode cX1_hasUnlikeRates 42 = .ok (.iaload, 1) := by decide +kernel
theorem dX1_hasUnlikeRates_43 : decode cX1_hasUnlikeRates 43 = .ok (.if_icmp .eq 5, 3) := by decide +kernel
theorem dX1_hasUnlikeRates_46 : decode cX1_hasUnlikeRates 46 = .ok (.iconst 1, 1) := by decide +kernel
theorem dX1_hasUnlikeRates_47 : decode cX1_hasUnlikeRates 47 = .ok (.ireturn, 1) := by decide +kernel
theorem dX1_hasUnlikeRates_48 : decode cX1_hasUnlikeRates 48 = .ok (.iinc 2 1, 3) := by decide +kernel
theorem dX1_hasUnlikeRates_51 : decode cX1_hasUnlikeRates 51 = .ok (.goto (-47), 3) := by decide +kernel
theorem dX1_hasUnlikeRates_54 : decode cX1_hasUnlikeRates 54 = .ok (.iconst 0, 1) := by decide +kernel
theorem dX1_hasUnlikeRates_55 : decode cX1_hasUnlikeRates 55 = .ok (.ireturn, 1) := by decide +kernel
theorem dX1_pieceOf_0 : decode cX1_pieceOf 0 = .ok (.aload_n 0, 1) := by decide +kernel
theorem dX1_pieceOf_1 : decode cX1_pieceOf 1 = .ok (.getfield 54, 3) := by decide +kernel
theorem dX1_pieceOf_4 : decode cX1_pieceOf 4 = .ok (.iconst 1, 1) := by decide +kernel
theorem dX1_pieceOf_5 : decode cX1_pieceOf 5 = .ok (.iload_n 1, 1) := by decide +kernel
theorem dX1_pieceOf_6 : decode cX1_pieceOf 6 = .ok (.ishl, 1) := by decide +kernel
theorem dX1_pieceOf_7 : decode cX1_pieceOf 7 = .ok (.iand, 1) := by decide +kernel
theorem dX1_pieceOf_8 : decode cX1_pieceOf 8 = .ok (.istore_n 2, 1) := by decide +kernel
theorem dX1_pieceOf_9 : decode cX1_pieceOf 9 = .ok (.iconst 0, 1) := by decide +kernel
theorem dX1_pieceOf_10 : decode cX1_pieceOf 10 = .ok (.istore_n 3, 1) := by decide +kernel
theorem dX1_pieceOf_11 : decode cX1_pieceOf 11 = .ok (.iload_n 3, 1) := by decide +kernel
theorem dX1_pieceOf_12 : decode cX1_pieceOf 12 = .ok (.bipush 16, 2) := by decide +kernel
theorem dX1_pieceOf_14 : decode cX1_pieceOf 14 = .ok (.if_icmp .ge 29, 3) := by decide +kernel
theorem dX1_pieceOf_17 : decode cX1_pieceOf 17 = .ok (.iload_n 2, 1) := by decide +kernel
theorem dX1_pieceOf_18 : decode cX1_pieceOf 18 = .ok (.aload_n 0, 1) := by decide +kernel
theorem dX1_pieceOf_19 : decode cX1_pieceOf 19 = .ok (.iload_n 2, 1) := by decide +kernel
theorem dX1_pieceOf_20 : decode cX1_pieceOf 20 = .ok (.invokevirtual 130, 3) := by decide +kernel
theorem dX1_pieceOf_23 : decode cX1_pieceOf 23 = .ok (.ior, 1) := by decide +kernel
theorem dX1_pieceOf_24 : decode cX1_pieceOf 24 = .ok (.istore 4, 2) := by decide +kernel
theorem dX1_pieceOf_26 : decode cX1_pieceOf 26 = .ok (.iload 4, 2) := by decide +kernel
theorem dX1_pieceOf_28 : decode cX1_pieceOf 28 = .ok (.iload_n 2, 1) := by decide +kernel
theorem dX1_pieceOf_29 : decode cX1_pieceOf 29 = .ok (.if_icmp .ne 5, 3) := by decide +kernel
theorem dX1_pieceOf_32 : decode cX1_pieceOf 32 = .ok (.iload_n 2, 1) := by decide +kernel
theorem dX1_pieceOf_33 : decode cX1_pieceOf 33 = .ok (.ireturn, 1) := by decide +kernel
theorem dX1_pieceOf_34 : decode cX1_pieceOf 34 = .ok (.iload 4, 2) := by decide +kernel
theorem dX1_pieceOf_36 : decode cX1_pieceOf 36 = .ok (.istore_n 2, 1) := by decide +kernel
theorem dX1_pieceOf_37 : decode cX1_pieceOf 37 = .ok (.iinc 3 1, 3) := by decide +kernel
theorem dX1_pieceOf_40 : decode cX1_pieceOf 40 = .ok (.goto (-29), 3) := by decide +kernel
theorem dX1_pieceOf_43 : decode cX1_pieceOf 43 = .ok (.iload_n 2, 1) := by decide +kernel
theorem dX1_pieceOf_44 : decode cX1_pieceOf 44 = .ok (.ireturn, 1) := by decide +kernel
theorem dX1_neighbours_0 : decode cX1_neighbours 0 = .ok (.iconst 0, 1) := by decide +kernel
theorem dX1_neighbours_1 : decode cX1_neighbours 1 = .ok (.istore_n 2, 1) := by decide +kernel
theorem dX1_neighbours_2 : decode cX1_neighbours 2 = .ok (.iconst 0, 1) := by decide +kernel
theorem dX1_neighbours_3 : decode cX1_neighbours 3 = .ok (.istore_n 3, 1) := by decide +kernel
theorem dX1_neighbours_4 : decode cX1_neighbours 4 = .ok (.iload_n 3, 1) := by decide +kernel
theorem dX1_neighbours_5 : decode cX1_neighbours 5 = .ok (.bipush 16, 2) := by decide +kernel
theorem dX1_neighbours_7 : decode cX1_neighbours 7 = .ok (.if_icmp .ge 31, 3) := by decide +kernel
theorem dX1_neighbours_10 : decode cX1_neighbours 10 = .ok (.iload_n 1, 1) := by decide +kernel
theorem dX1_neighbours_11 : decode cX1_neighbours 11 = .ok (.iload_n 3, 1) := by decide +kernel
theorem dX1_neighbours_12 : decode cX1_neighbours 12 = .ok (.invokestatic 72, 3) := by decide +kernel
theorem dX1_neighbours_15 : decode cX1_neighbours 15 = .ok (.ifCond .eq 17, 3) := by decide +kernel
theorem dX1_neighbours_18 : decode cX1_neighbours 18 = .ok (.iload_n 2, 1) := by decide +kernel
theorem dX1_neighbours_19 : decode cX1_neighbours 19 = .ok (.aload_n 0, 1) := by decide +kernel
theorem dX1_neighbours_20 : decode cX1_neighbours 20 = .ok (.getfield 21, 3) := by decide +kernel
theorem dX1_neighbours_23 : decode cX1_neighbours 23 = .ok (.iload_n 3, 1) := by decide +kernel
theorem dX1_neighbours_24 : decode cX1_neighbours 24 = .ok (.iaload, 1) := by decide +kernel
theorem dX1_neighbours_25 : decode cX1_neighbours 25 = .ok (.aload_n 0, 1) := by decide +kernel
theorem dX1_neighbours_26 : decode cX1_neighbours 26 = .ok (.getfield 54, 3) := by decide +kernel
theorem dX1_neighbours_29 : decode cX1_neighbours 29 = .ok (.iand, 1) := by decide +kernel
theorem dX1_neighbours_30 : decode cX1_neighbours 30 = .ok (.ior, 1) := by decide +kernel
theorem dX1_neighbours_31 : decode cX1_neighbours 31 = .ok (.istore_n 2, 1) := by decide +kernel
theorem dX1_neighbours_32 : decode cX1_neighbours 32 = .ok (.iinc 3 1, 3) := by decide +kernel
theorem dX1_neighbours_35 : decode cX1_neighbours 35 = .ok (.goto (-31), 3) := by decide +kernel
theorem dX1_neighbours_38 : decode cX1_neighbours 38 = .ok (.iload_n 2, 1) := by decide +kernel
theorem dX1_neighbours_39 : decode cX1_neighbours 39 = .ok (.ireturn, 1) := by decide +kernel
theorem dX1_pieces_0 : decode cX1_pieces 0 = .ok (.iconst 0, 1) := by decide +kernel
theorem dX1_pieces_1 : decode cX1_pieces 1 = .ok (.istore_n 1, 1) := by decide +kernel
theorem dX1_pieces_2 : decode cX1_pieces 2 = .ok (.iconst 0, 1) := by decide +kernel
theorem dX1_pieces_3 : decode cX1_pieces 3 = .ok (.istore_n 2, 1) := by decide +kernel
theorem dX1_pieces_4 : decode cX1_pieces 4 = .ok (.iconst 0, 1) := by decide +kernel
theorem dX1_pieces_5 : decode cX1_pieces 5 = .ok (.istore_n 3, 1) := by decide +kernel
theorem dX1_pieces_6 : decode cX1_pieces 6 = .ok (.iload_n 3, 1) := by decide +kernel
theorem dX1_pieces_7 : decode cX1_pieces 7 = .ok (.bipush 16, 2) := by decide +kernel
theorem dX1_pieces_9 : decode cX1_pieces 9 = .ok (.if_icmp .ge 35, 3) := by decide +kernel
theorem dX1_pieces_12 : decode cX1_pieces 12 = .ok (.aload_n 0, 1) := by decide +kernel
theorem dX1_pieces_13 : decode cX1_pieces 13 = .ok (.getfield 54, 3) := by decide +kernel
theorem dX1_pieces_16 : decode cX1_pieces 16 = .ok (.iload_n 2, 1) := by decide +kernel
theorem dX1_pieces_17 : decode cX1_pieces 17 = .ok (.iconst (-1), 1) := by decide +kernel
theorem dX1_pieces_18 : decode cX1_pieces 18 = .ok (.ixor, 1) := by decide +kernel
theorem dX1_pieces_19 : decode cX1_pieces 19 = .ok (.iand, 1) := by decide +kernel
theorem dX1_pieces_20 : decode cX1_pieces 20 = .ok (.iload_n 3, 1) := by decide +kernel
theorem dX1_pieces_21 : decode cX1_pieces 21 = .ok (.invokestatic 72, 3) := by decide +kernel
theorem dX1_pieces_24 : decode cX1_pieces 24 = .ok (.ifCond .eq 14, 3) := by decide +kernel
theorem dX1_pieces_27 : decode cX1_pieces 27 = .ok (.iload_n 2, 1) := by decide +kernel
theorem dX1_pieces_28 : decode cX1_pieces 28 = .ok (.aload_n 0, 1) := by decide +kernel
theorem dX1_pieces_29 : decode cX1_pieces 29 = .ok (.iload_n 3, 1) := by decide +kernel
theorem dX1_pieces_30 : decode cX1_pieces 30 = .ok (.invokevirtual 133, 3) := by decide +kernel
theorem dX1_pieces_33 : decode cX1_pieces 33 = .ok (.ior, 1) := by decide +kernel
theorem dX1_pieces_34 : decode cX1_pieces 34 = .ok (.istore_n 2, 1) := by decide +kernel
theorem dX1_pieces_35 : decode cX1_pieces 35 = .ok (.iinc 1 1, 3) := by decide +kernel
theorem dX1_pieces_38 : decode cX1_pieces 38 = .ok (.iinc 3 1, 3) := by decide +kernel
theorem dX1_pieces_41 : decode cX1_pieces 41 = .ok (.goto (-35), 3) := by decide +kernel
theorem dX1_pieces_44 : decode cX1_pieces 44 = .ok (.iload_n 1, 1) := by decide +kernel
theorem dX1_pieces_45 : decode cX1_pieces 45 = .ok (.ireturn, 1) := by decide +kernel
theorem dX1_agreeing_0 : decode cX1_agreeing 0 = .ok (.aload_n 0, 1) := by decide +kernel
theorem dX1_agreeing_1 : decode cX1_agreeing 1 = .ok (.iload_n 1, 1) := by decide +kernel
theorem dX1_agreeing_2 : decode cX1_agreeing 2 = .ok (.invokevirtual 76, 3) := by decide +kernel
theorem dX1_agreeing_5 : decode cX1_agreeing 5 = .ok (.ifCond .ne 5, 3) := by decide +kernel
theorem dX1_agreeing_8 : decode cX1_agreeing 8 = .ok (.iconst 0, 1) := by decide +kernel
theorem dX1_agreeing_9 : decode cX1_agreeing 9 = .ok (.ireturn, 1) := by decide +kernel
theorem dX1_agreeing_10 : decode cX1_agreeing 10 = .ok (.iconst 0, 1) := by decide +kernel
theorem dX1_agreeing_11 : decode cX1_agreeing 11 = .ok (.istore_n 2, 1) := by decide +kernel
theorem dX1_agreeing_12 : decode cX1_agreeing 12 = .ok (.iconst 0, 1) := by decide +kernel
theorem dX1_agreeing_13 : decode cX1_agreeing 13 = .ok (.istore_n 3, 1) := by decide +kernel
theorem dX1_agreeing_14 : decode cX1_agreeing 14 = .ok (.iload_n 3, 1) := by decide +kernel
theorem dX1_agreeing_15 : decode cX1_agreeing 15 = .ok (.bipush 16, 2) := by decide +kernel
theorem dX1_agreeing_17 : decode cX1_agreeing 17 = .ok (.if_icmp .ge 38, 3) := by decide +kernel
theorem dX1_agreeing_20 : decode cX1_agreeing 20 = .ok (.aload_n 0, 1) := by decide +kernel
theorem dX1_agreeing_21 : decode cX1_agreeing 21 = .ok (.iload_n 3, 1) := by decide +kernel
theorem dX1_agreeing_22 : decode cX1_agreeing 22 = .ok (.invokevirtual 76, 3) := by decide +kernel
theorem dX1_agreeing_25 : decode cX1_agreeing 25 = .ok (.ifCond .eq 24, 3) := by decide +kernel
theorem dX1_agreeing_28 : decode cX1_agreeing 28 = .ok (.aload_n 0, 1) := by decide +kernel
theorem dX1_agreeing_29 : decode cX1_agreeing 29 = .ok (.getfield 9, 3) := by decide +kernel
theorem dX1_agreeing_32 : decode cX1_agreeing 32 = .ok (.iload_n 3, 1) := by decide +kernel
theorem dX1_agreeing_33 : decode cX1_agreeing 33 = .ok (.iaload, 1) := by decide +kernel
theorem dX1_agreeing_34 : decode cX1_agreeing 34 = .ok (.aload_n 0, 1) := by decide +kernel
theorem dX1_agreeing_35 : decode cX1_agreeing 35 = .ok (.getfield 9, 3) := by decide +kernel
theorem dX1_agreeing_38 : decode cX1_agreeing 38 = .ok (.iload_n 1, 1) := by decide +kernel
theorem dX1_agreeing_39 : decode cX1_agreeing 39 = .ok (.iaload, 1) := by decide +kernel
theorem dX1_agreeing_40 : decode cX1_agreeing 40 = .ok (.if_icmp .ne 9, 3) := by decide +kernel
theorem dX1_agreeing_43 : decode cX1_agreeing 43 = .ok (.iload_n 2, 1) := by decide +kernel
theorem dX1_agreeing_44 : decode cX1_agreeing 44 = .ok (.iconst 1, 1) := by decide +kernel
theorem dX1_agreeing_45 : decode cX1_agreeing 45 = .ok (.iload_n 3, 1) := by decide +kernel
theorem dX1_agreeing_46 : decode cX1_agreeing 46 = .ok (.ishl, 1) := by decide +kernel
theorem dX1_agreeing_47 : decode cX1_agreeing 47 = .ok (.ior, 1) := by decide +kernel
theorem dX1_agreeing_48 : decode cX1_agreeing 48 = .ok (.istore_n 2, 1) := by decide +kernel
theorem dX1_agreeing_49 : decode cX1_agreeing 49 = .ok (.iinc 3 1, 3) := by decide +kernel
theorem dX1_agreeing_52 : decode cX1_agreeing 52 = .ok (.goto (-38), 3) := by decide +kernel
theorem dX1_agreeing_55 : decode cX1_agreeing 55 = .ok (.iload_n 2, 1) := by decide +kernel
theorem dX1_agreeing_56 : decode cX1_agreeing 56 = .ok (.ireturn, 1) := by decide +kernel
theorem dX1_lampWithMostLinks_0 : decode cX1_lampWithMostLinks 0 = .ok (.iconst (-1), 1) := by decide +kernel
theorem dX1_lampWithMostLinks_1 : decode cX1_lampWithMostLinks 1 = .ok (.istore_n 1, 1) := by decide +kernel
theorem dX1_lampWithMostLinks_2 : decode cX1_lampWithMostLinks 2 = .ok (.iconst (-1), 1) := by decide +kernel
theorem dX1_lampWithMostLinks_3 : decode cX1_lampWithMostLinks 3 = .ok (.istore_n 2, 1) := by decide +kernel
theorem dX1_lampWithMostLinks_4 : decode cX1_lampWithMostLinks 4 = .ok (.iconst 0, 1) := by decide +kernel
theorem dX1_lampWithMostLinks_5 : decode cX1_lampWithMostLinks 5 = .ok (.istore_n 3, 1) := by decide +kernel
theorem dX1_lampWithMostLinks_6 : decode cX1_lampWithMostLinks 6 = .ok (.iload_n 3, 1) := by decide +kernel
theorem dX1_lampWithMostLinks_7 : decode cX1_lampWithMostLinks 7 = .ok (.bipush 16, 2) := by decide +kernel
theorem dX1_lampWithMostLinks_9 : decode cX1_lampWithMostLinks 9 = .ok (.if_icmp .ge 42, 3) := by decide +kernel
theorem dX1_lampWithMostLinks_12 : decode cX1_lampWithMostLinks 12 = .ok (.aload_n 0, 1) := by decide +kernel
theorem dX1_lampWithMostLinks_13 : decode cX1_lampWithMostLinks 13 = .ok (.getfield 21, 3) := by decide +kernel
theorem dX1_lampWithMostLinks_16 : decode cX1_lampWithMostLinks 16 = .ok (.iload_n 3, 1) := by decide +kernel
theorem dX1_lampWithMostLinks_17 : decode cX1_lampWithMostLinks 17 = .ok (.iaload, 1) := by decide +kernel
theorem dX1_lampWithMostLinks_18 : decode cX1_lampWithMostLinks 18 = .ok (.invokestatic 83, 3) := by decide +kernel
theorem dX1_lampWithMostLinks_21 : decode cX1_lampWithMostLinks 21 = .ok (.istore 4, 2) := by decide +kernel
theorem dX1_lampWithMostLinks_23 : decode cX1_lampWithMostLinks 23 = .ok (.aload_n 0, 1) := by decide +kernel
theorem dX1_lampWithMostLinks_24 : decode cX1_lampWithMostLinks 24 = .ok (.getfield 50, 3) := by decide +kernel
theorem dX1_lampWithMostLinks_27 : decode cX1_lampWithMostLinks 27 = .ok (.iload_n 3, 1) := by decide +kernel
theorem dX1_lampWithMostLinks_28 : decode cX1_lampWithMostLinks 28 = .ok (.invokestatic 72, 3) := by decide +kernel
theorem dX1_lampWithMostLinks_31 : decode cX1_lampWithMostLinks 31 = .ok (.ifCond .eq 14, 3) := by decide +kernel
theorem dX1_lampWithMostLinks_34 : decode cX1_lampWithMostLinks 34 = .ok (.iload 4, 2) := by decide +kernel
theorem dX1_lampWithMostLinks_36 : decode cX1_lampWithMostLinks 36 = .ok (.iload_n 2, 1) := by decide +kernel
theorem dX1_lampWithMostLinks_37 : decode cX1_lampWithMostLinks 37 = .ok (.if_icmp .le 8, 3) := by decide +kernel
theorem dX1_lampWithMostLinks_40 : decode cX1_lampWithMostLinks 40 = .ok (.iload_n 3, 1) := by decide +kernel
theorem dX1_lampWithMostLinks_41 : decode cX1_lampWithMostLinks 41 = .ok (.istore_n 1, 1) := by decide +kernel
theorem dX1_lampWithMostLinks_42 : decode cX1_lampWithMostLinks 42 = .ok (.iload 4, 2) := by decide +kernel
theorem dX1_lampWithMostLinks_44 : decode cX1_lampWithMostLinks 44 = .ok (.istore_n 2, 1) := by decide +kernel
theorem dX1_lampWithMostLinks_45 : decode cX1_lampWithMostLinks 45 = .ok (.iinc 3 1, 3) := by decide +kernel
theorem dX1_lampWithMostLinks_48 : decode cX1_lampWithMostLinks 48 = .ok (.goto (-42), 3) := by decide +kernel
theorem dX1_lampWithMostLinks_51 : decode cX1_lampWithMostLinks 51 = .ok (.iload_n 1, 1) := by decide +kernel
theorem dX1_lampWithMostLinks_52 : decode cX1_lampWithMostLinks 52 = .ok (.ireturn, 1) := by decide +kernel
theorem dX1_tellLamp_0 : decode cX1_tellLamp 0 = .ok (.iload_n 2, 1) := by decide +kernel
theorem dX1_tellLamp_1 : decode cX1_tellLamp 1 = .ok (.tableswitch 130 0 9 #[55, 62, 69, 83, 90, 97, 104, 111, 117, 123], 55) := by decide +kernel
theorem dX1_tellLamp_56 : decode cX1_tellLamp 56 = .ok (.aload_n 0, 1) := by decide +kernel
theorem dX1_tellLamp_57 : decode cX1_tellLamp 57 = .ok (.getfield 9, 3) := by decide +kernel
theorem dX1_tellLamp_60 : decode cX1_tellLamp 60 = .ok (.iload_n 1, 1) := by decide +kernel
theorem dX1_tellLamp_61 : decode cX1_tellLamp 61 = .ok (.iaload, 1) := by decide +kernel
theorem dX1_tellLamp_62 : decode cX1_tellLamp 62 = .ok (.ireturn, 1) := by decide +kernel
theorem dX1_tellLamp_63 : decode cX1_tellLamp 63 = .ok (.aload_n 0, 1) := by decide +kernel
theorem dX1_tellLamp_64 : decode cX1_tellLamp 64 = .ok (.getfield 15, 3) := by decide +kernel
theorem dX1_tellLamp_67 : decode cX1_tellLamp 67 = .ok (.iload_n 1, 1) := by decide +kernel
theorem dX1_tellLamp_68 : decode cX1_tellLamp 68 = .ok (.iaload, 1) := by decide +kernel
theorem dX1_tellLamp_69 : decode cX1_tellLamp 69 = .ok (.ireturn, 1) := by decide +kernel
theorem dX1_tellLamp_70 : decode cX1_tellLamp 70 = .ok (.aload_n 0, 1) := by decide +kernel
theorem dX1_tellLamp_71 : decode cX1_tellLamp 71 = .ok (.iload_n 1, 1) := by decide +kernel
theorem dX1_tellLamp_72 : decode cX1_tellLamp 72 = .ok (.invokevirtual 76, 3) := by decide +kernel
theorem dX1_tellLamp_75 : decode cX1_tellLamp 75 = .ok (.ifCond .eq 7, 3) := by decide +kernel
theorem dX1_tellLamp_78 : decode cX1_tellLamp 78 = .ok (.iconst 1, 1) := by decide +kernel
theorem dX1_tellLamp_79 : decode cX1_tellLamp 79 = .ok (.goto 4, 3) := by decide +kernel
theorem dX1_tellLamp_82 : decode cX1_tellLamp 82 = .ok (.iconst 0, 1) := by decide +kernel
theorem dX1_tellLamp_83 : decode cX1_tellLamp 83 = .ok (.ireturn, 1) := by decide +kernel
theorem dX1_tellLamp_84 : decode cX1_tellLamp 84 = .ok (.aload_n 0, 1) := by decide +kernel
theorem dX1_tellLamp_85 : decode cX1_tellLamp 85 = .ok (.getfield 18, 3) := by decide +kernel
theorem dX1_tellLamp_88 : decode cX1_tellLamp 88 = .ok (.iload_n 1, 1) := by decide +kernel
theorem dX1_tellLamp_89 : decode cX1_tellLamp 89 = .ok (.iaload, 1) := by decide +kernel
theorem dX1_tellLamp_90 : decode cX1_tellLamp 90 = .ok (.ireturn, 1) := by decide +kernel
theorem dX1_tellLamp_91 : decode cX1_tellLamp 91 = .ok (.aload_n 0, 1) := by decide +kernel
theorem dX1_tellLamp_92 : decode cX1_tellLamp 92 = .ok (.getfield 24, 3) := by decide +kernel
theorem dX1_tellLamp_95 : decode cX1_tellLamp 95 = .ok (.iload_n 1, 1) := by decide +kernel
theorem dX1_tellLamp_96 : decode cX1_tellLamp 96 = .ok (.iaload, 1) := by decide +kernel
theorem dX1_tellLamp_97 : decode cX1_tellLamp 97 = .ok (.ireturn, 1) := by decide +kernel
theorem dX1_tellLamp_98 : decode cX1_tellLamp 98 = .ok (.aload_n 0, 1) := by decide +kernel
theorem dX1_tellLamp_99 : decode cX1_tellLamp 99 = .ok (.getfield 27, 3) := by decide +kernel
theorem dX1_tellLamp_102 : decode cX1_tellLamp 102 = .ok (.iload_n 1, 1) := by decide +kernel
theorem dX1_tellLamp_103 : decode cX1_tellLamp 103 = .ok (.iaload, 1) := by decide +kernel
theorem dX1_tellLamp_104 : decode cX1_tellLamp 104 = .ok (.ireturn, 1) := by decide +kernel
theorem dX1_tellLamp_105 : decode cX1_tellLamp 105 = .ok (.aload_n 0, 1) := by decide +kernel
theorem dX1_tellLamp_106 : decode cX1_tellLamp 106 = .ok (.getfield 21, 3) := by decide +kernel
theorem dX1_tellLamp_109 : decode cX1_tellLamp 109 = .ok (.iload_n 1, 1) := by decide +kernel
theorem dX1_tellLamp_110 : decode cX1_tellLamp 110 = .ok (.iaload, 1) := by decide +kernel
theorem dX1_tellLamp_111 : decode cX1_tellLamp 111 = .ok (.ireturn, 1) := by decide +kernel
theorem dX1_tellLamp_112 : decode cX1_tellLamp 112 = .ok (.aload_n 0, 1) := by decide +kernel
theorem dX1_tellLamp_113 : decode cX1_tellLamp 113 = .ok (.iload_n 1, 1) := by decide +kernel
theorem dX1_tellLamp_114 : decode cX1_tellLamp 114 = .ok (.invokevirtual 133, 3) := by decide +kernel
theorem dX1_tellLamp_117 : decode cX1_tellLamp 117 = .ok (.ireturn, 1) := by decide +kernel
theorem dX1_tellLamp_118 : decode cX1_tellLamp 118 = .ok (.aload_n 0, 1) := by decide +kernel
theorem dX1_tellLamp_119 : decode cX1_tellLamp 119 = .ok (.iload_n 1, 1) := by decide +kernel
theorem dX1_tellLamp_120 : decode cX1_tellLamp 120 = .ok (.invokevirtual 136, 3) := by decide +kernel
theorem dX1_tellLamp_123 : decode cX1_tellLamp 123 = .ok (.ireturn, 1) := by decide +kernel
theorem dX1_tellLamp_124 : decode cX1_tellLamp 124 = .ok (.aload_n 0, 1) := by decide +kernel
theorem dX1_tellLamp_125 : decode cX1_tellLamp 125 = .ok (.getfield 30, 3) := by decide +kernel
theorem dX1_tellLamp_128 : decode cX1_tellLamp 128 = .ok (.iload_n 1, 1) := by decide +kernel
theorem dX1_tellLamp_129 : decode cX1_tellLamp 129 = .ok (.iaload, 1) := by decide +kernel
theorem dX1_tellLamp_130 : decode cX1_tellLamp 130 = .ok (.ireturn, 1) := by decide +kernel
theorem dX1_tellLamp_131 : decode cX1_tellLamp 131 = .ok (.bipush (-2), 2) := by decide +kernel
theorem dX1_tellLamp_133 : decode cX1_tellLamp 133 = .ok (.ireturn, 1) := by decide +kernel
theorem dX1_tellMesh_0 : decode cX1_tellMesh 0 = .ok (.iload_n 1, 1) := by decide +kernel
theorem dX1_tellMesh_1 : decode cX1_tellMesh 1 = .ok (.tableswitch 129 0 11 #[63, 68, 73, 78, 83, 88, 93, 98, 103, 108, 115, 122], 63) := by decide +kernel
theorem dX1_tellMesh_64 : decode cX1_tellMesh 64 = .ok (.aload_n 0, 1) := by decide +kernel
theorem dX1_tellMesh_65 : decode cX1_tellMesh 65 = .ok (.getfield 57, 3) := by decide +kernel
theorem dX1_tellMesh_68 : decode cX1_tellMesh 68 = .ok (.ireturn, 1) := by decide +kernel
theorem dX1_tellMesh_69 : decode cX1_tellMesh 69 = .ok (.aload_n 0, 1) := by decide +kernel
theorem dX1_tellMesh_70 : decode cX1_tellMesh 70 = .ok (.invokevirtual 139, 3) := by decide +kernel
theorem dX1_tellMesh_73 : decode cX1_tellMesh 73 = .ok (.ireturn, 1) := by decide +kernel
theorem dX1_tellMesh_74 : decode cX1_tellMesh 74 = .ok (.aload_n 0, 1) := by decide +kernel
theorem dX1_tellMesh_75 : decode cX1_tellMesh 75 = .ok (.invokevirtual 142, 3) := by decide +kernel
theorem dX1_tellMesh_78 : decode cX1_tellMesh 78 = .ok (.ireturn, 1) := by decide +kernel
theorem dX1_tellMesh_79 : decode cX1_tellMesh 79 = .ok (.aload_n 0, 1) := by decide +kernel
theorem dX1_tellMesh_80 : decode cX1_tellMesh 80 = .ok (.invokevirtual 145, 3) := by decide +kernel
theorem dX1_tellMesh_83 : decode cX1_tellMesh 83 = .ok (.ireturn, 1) := by decide +kernel
theorem dX1_tellMesh_84 : decode cX1_tellMesh 84 = .ok (.aload_n 0, 1) := by decide +kernel
theorem dX1_tellMesh_85 : decode cX1_tellMesh 85 = .ok (.invokevirtual 148, 3) := by decide +kernel
theorem dX1_tellMesh_88 : decode cX1_tellMesh 88 = .ok (.ireturn, 1) := by decide +kernel
theorem dX1_tellMesh_89 : decode cX1_tellMesh 89 = .ok (.aload_n 0, 1) := by decide +kernel
theorem dX1_tellMesh_90 : decode cX1_tellMesh 90 = .ok (.getfield 60, 3) := by decide +kernel
theorem dX1_tellMesh_93 : decode cX1_tellMesh 93 = .ok (.ireturn, 1) := by decide +kernel
theorem dX1_tellMesh_94 : decode cX1_tellMesh 94 = .ok (.aload_n 0, 1) := by decide +kernel
theorem dX1_tellMesh_95 : decode cX1_tellMesh 95 = .ok (.getfield 63, 3) := by decide +kernel
theorem dX1_tellMesh_98 : decode cX1_tellMesh 98 = .ok (.ireturn, 1) := by decide +kernel
theorem dX1_tellMesh_99 : decode cX1_tellMesh 99 = .ok (.aload_n 0, 1) := by decide +kernel
theorem dX1_tellMesh_100 : decode cX1_tellMesh 100 = .ok (.getfield 66, 3) := by decide +kernel
theorem dX1_tellMesh_103 : decode cX1_tellMesh 103 = .ok (.ireturn, 1) := by decide +kernel
theorem dX1_tellMesh_104 : decode cX1_tellMesh 104 = .ok (.aload_n 0, 1) := by decide +kernel
theorem dX1_tellMesh_105 : decode cX1_tellMesh 105 = .ok (.getfield 69, 3) := by decide +kernel
theorem dX1_tellMesh_108 : decode cX1_tellMesh 108 = .ok (.ireturn, 1) := by decide +kernel
theorem dX1_tellMesh_109 : decode cX1_tellMesh 109 = .ok (.aload_n 0, 1) := by decide +kernel
theorem dX1_tellMesh_110 : decode cX1_tellMesh 110 = .ok (.getfield 41, 3) := by decide +kernel
theorem dX1_tellMesh_113 : decode cX1_tellMesh 113 = .ok (.iconst 0, 1) := by decide +kernel
theorem dX1_tellMesh_114 : decode cX1_tellMesh 114 = .ok (.iaload, 1) := by decide +kernel
theorem dX1_tellMesh_115 : decode cX1_tellMesh 115 = .ok (.ireturn, 1) := by decide +kernel
theorem dX1_tellMesh_116 : decode cX1_tellMesh 116 = .ok (.aload_n 0, 1) := by decide +kernel
theorem dX1_tellMesh_117 : decode cX1_tellMesh 117 = .ok (.getfield 41, 3) := by decide +kernel
theorem dX1_tellMesh_120 : decode cX1_tellMesh 120 = .ok (.iconst 1, 1) := by decide +kernel
theorem dX1_tellMesh_121 : decode cX1_tellMesh 121 = .ok (.iaload, 1) := by decide +kernel
theorem dX1_tellMesh_122 : decode cX1_tellMesh 122 = .ok (.ireturn, 1) := by decide +kernel
theorem dX1_tellMesh_123 : decode cX1_tellMesh 123 = .ok (.aload_n 0, 1) := by decide +kernel
theorem dX1_tellMesh_124 : decode cX1_tellMesh 124 = .ok (.getfield 41, 3) := by decide +kernel
theorem dX1_tellMesh_127 : decode cX1_tellMesh 127 = .ok (.iconst 2, 1) := by decide +kernel
theorem dX1_tellMesh_128 : decode cX1_tellMesh 128 = .ok (.iaload, 1) := by decide +kernel
theorem dX1_tellMesh_129 : decode cX1_tellMesh 129 = .ok (.ireturn, 1) := by decide +kernel
theorem dX1_tellMesh_130 : decode cX1_tellMesh 130 = .ok (.bipush (-2), 2) := by decide +kernel
theorem dX1_tellMesh_132 : decode cX1_tellMesh 132 = .ok (.ireturn, 1) := by decide +kernel
theorem dX2_init_0 : decode cX2_init 0 = .ok (.aload_n 0, 1) := by decide +kernel
theorem dX2_init_1 : decode cX2_init 1 = .ok (.invokespecial 3, 3) := by decide +kernel
theorem dX2_init_4 : decode cX2_init 4 = .ok (.aload_n 0, 1) := by decide +kernel
theorem dX2_init_5 : decode cX2_init 5 = .ok (.bipush 60, 2) := by decide +kernel
theorem dX2_init_7 : decode cX2_init 7 = .ok (.newarray .char, 2) := by decide +kernel
theorem dX2_init_9 : decode cX2_init 9 = .ok (.putfield 9, 3) := by decide +kernel
theorem dX2_init_12 : decode cX2_init 12 = .ok (.aload_n 0, 1) := by decide +kernel
theorem dX2_init_13 : decode cX2_init 13 = .ok (.bipush 16, 2) := by decide +kernel
theorem dX2_init_15 : decode cX2_init 15 = .ok (.newarray .int, 2) := by decide +kernel
theorem dX2_init_17 : decode cX2_init 17 = .ok (.putfield 15, 3) := by decide +kernel
theorem dX2_init_20 : decode cX2_init 20 = .ok (.aload_n 0, 1) := by decide +kernel
theorem dX2_init_21 : decode cX2_init 21 = .ok (.bipush 16, 2) := by decide +kernel
theorem dX2_init_23 : decode cX2_init 23 = .ok (.newarray .int, 2) := by decide +kernel
theorem dX2_init_25 : decode cX2_init 25 = .ok (.putfield 19, 3) := by decide +kernel
theorem dX2_init_28 : decode cX2_init 28 = .ok (.aload_n 0, 1) := by decide +kernel
theorem dX2_init_29 : decode cX2_init 29 = .ok (.bipush 16, 2) := by decide +kernel
theorem dX2_init_31 : decode cX2_init 31 = .ok (.newarray .int, 2) := by decide +kernel
theorem dX2_init_33 : decode cX2_init 33 = .ok (.putfield 22, 3) := by decide +kernel
theorem dX2_init_36 : decode cX2_init 36 = .ok (.return_, 1) := by decide +kernel
theorem dX2_length_0 : decode cX2_length 0 = .ok (.aload_n 0, 1) := by decide +kernel
theorem dX2_length_1 : decode cX2_length 1 = .ok (.getfield 25, 3) := by decide +kernel
theorem dX2_length_4 : decode cX2_length 4 = .ok (.ireturn, 1) := by decide +kernel
theorem dX2_fault_0 : decode cX2_fault 0 = .ok (.aload_n 0, 1) := by decide +kernel
theorem dX2_fault_1 : decode cX2_fault 1 = .ok (.getfield 29, 3) := by decide +kernel
theorem dX2_fault_4 : decode cX2_fault 4 = .ok (.ireturn, 1) := by decide +kernel
theorem dX2_isFull_0 : decode cX2_isFull 0 = .ok (.aload_n 0, 1) := by decide +kernel
theorem dX2_isFull_1 : decode cX2_isFull 1 = .ok (.getfield 25, 3) := by decide +kernel
theorem dX2_isFull_4 : decode cX2_isFull 4 = .ok (.bipush 60, 2) := by decide +kernel
theorem dX2_isFull_6 : decode cX2_isFull 6 = .ok (.if_icmp .lt 7, 3) := by decide +kernel
theorem dX2_isFull_9 : decode cX2_isFull 9 = .ok (.iconst 1, 1) := by decide +kernel
theorem dX2_isFull_10 : decode cX2_isFull 10 = .ok (.goto 4, 3) := by decide +kernel
theorem dX2_isFull_13 : decode cX2_isFull 13 = .ok (.iconst 0, 1) := by decide +kernel
theorem dX2_isFull_14 : decode cX2_isFull 14 = .ok (.ireturn, 1) := by decide +kernel
theorem dX2_append_0 : decode cX2_append 0 = .ok (.aload_n 0, 1) := by decide +kernel
theorem dX2_append_1 : decode cX2_append 1 = .ok (.getfield 25, 3) := by decide +kernel
theorem dX2_append_4 : decode cX2_append 4 = .ok (.bipush 60, 2) := by decide +kernel
theorem dX2_append_6 : decode cX2_append 6 = .ok (.if_icmp .ge 23, 3) := by decide +kernel
theorem dX2_append_9 : decode cX2_append 9 = .ok (.aload_n 0, 1) := by decide +kernel
theorem dX2_append_10 : decode cX2_append 10 = .ok (.getfield 9, 3) := by decide +kernel
theorem dX2_append_13 : decode cX2_append 13 = .ok (.aload_n 0, 1) := by decide +kernel
theorem dX2_append_14 : decode cX2_append 14 = .ok (.getfield 25, 3) := by decide +kernel
theorem dX2_append_17 : decode cX2_append 17 = .ok (.iload_n 1, 1) := by decide +kernel
theorem dX2_append_18 : decode cX2_append 18 = .ok (.castore, 1) := by decide +kernel
theorem dX2_append_19 : decode cX2_append 19 = .ok (.aload_n 0, 1) := by decide +kernel
theorem dX2_append_20 : decode cX2_append 20 = .ok (.dup, 1) := by decide +kernel
theorem dX2_append_21 : decode cX2_append 21 = .ok (.getfield 25, 3) := by decide +kernel
theorem dX2_append_24 : decode cX2_append 24 = .ok (.iconst 1, 1) := by decide +kernel
theorem dX2_append_25 : decode cX2_append 25 = .ok (.iadd, 1) := by decide +kernel
theorem dX2_append_26 : decode cX2_append 26 = .ok (.putfield 25, 3) := by decide +kernel
theorem dX2_append_29 : decode cX2_append 29 = .ok (.return_, 1) := by decide +kernel
theorem dX2_empty_0 : decode cX2_empty 0 = .ok (.aload_n 0, 1) := by decide +kernel
theorem dX2_empty_1 : decode cX2_empty 1 = .ok (.iconst 0, 1) := by decide +kernel
theorem dX2_empty_2 : decode cX2_empty 2 = .ok (.putfield 25, 3) := by decide +kernel
theorem dX2_empty_5 : decode cX2_empty 5 = .ok (.return_, 1) := by decide +kernel
theorem dX2_build_0 : decode cX2_build 0 = .ok (.aload_n 1, 1) := by decide +kernel
theorem dX2_build_1 : decode cX2_build 1 = .ok (.invokevirtual 32, 3) := by decide +kernel
theorem dX2_build_4 : decode cX2_build 4 = .ok (.iconst 0, 1) := by decide +kernel
theorem dX2_build_5 : decode cX2_build 5 = .ok (.istore_n 2, 1) := by decide +kernel
theorem dX2_build_6 : decode cX2_build 6 = .ok (.iload_n 2, 1) := by decide +kernel
theorem dX2_build_7 : decode cX2_build 7 = .ok (.bipush 16, 2) := by decide +kernel
theorem dX2_build_9 : decode cX2_build 9 = .ok (.if_icmp .ge 34, 3) := by decide +kernel
theorem dX2_build_12 : decode cX2_build 12 = .ok (.iload_n 2, 1) := by decide +kernel
theorem dX2_build_13 : decode cX2_build 13 = .ok (.aload_n 0, 1) := by decide +kernel
theorem dX2_build_14 : decode cX2_build 14 = .ok (.getfield 37, 3) := by decide +kernel
theorem dX2_build_17 : decode cX2_build 17 = .ok (.if_icmp .ge 26, 3) := by decide +kernel
theorem dX2_build_20 : decode cX2_build 20 = .ok (.aload_n 1, 1) := by decide +kernel
theorem dX2_build_21 : decode cX2_build 21 = .ok (.iload_n 2, 1) := by decide +kernel
theorem dX2_build_22 : decode cX2_build 22 = .ok (.aload_n 0, 1) := by decide +kernel
theorem dX2_build_23 : decode cX2_build 23 = .ok (.getfield 15, 3) := by decide +kernel
theorem dX2_build_26 : decode cX2_build 26 = .ok (.iload_n 2, 1) := by decide +kernel
theorem dX2_build_27 : decode cX2_build 27 = .ok (.iaload, 1) := by decide +kernel
theorem dX2_build_28 : decode cX2_build 28 = .ok (.aload_n 0, 1) := by decide +kernel
theorem dX2_build_29 : decode cX2_build 29 = .ok (.getfield 19, 3) := by decide +kernel
theorem dX2_build_32 : decode cX2_build 32 = .ok (.iload_n 2, 1) := by decide +kernel
theorem dX2_build_33 : decode cX2_build 33 = .ok (.iaload, 1) := by decide +kernel
theorem dX2_build_34 : decode cX2_build 34 = .ok (.invokevirtual 40, 3) := by decide +kernel
theorem dX2_build_37 : decode cX2_build 37 = .ok (.iinc 2 1, 3) := by decide +kernel
theorem dX2_build_40 : decode cX2_build 40 = .ok (.goto (-34), 3) := by decide +kernel
theorem dX2_build_43 : decode cX2_build 43 = .ok (.iconst 0, 1) := by decide +kernel
theorem dX2_build_44 : decode cX2_build 44 = .ok (.istore_n 2, 1) := by decide +kernel
theorem dX2_build_45 : decode cX2_build 45 = .ok (.iload_n 2, 1) := by decide +kernel
theorem dX2_build_46 : decode cX2_build 46 = .ok (.bipush 16, 2) := by decide +kernel
theorem dX2_build_48 : decode cX2_build 48 = .ok (.if_icmp .ge 45, 3) := by decide +kernel
theorem dX2_build_51 : decode cX2_build 51 = .ok (.iload_n 2, 1) := by decide +kernel
theorem dX2_build_52 : decode cX2_build 52 = .ok (.iconst 1, 1) := by decide +kernel
theorem dX2_build_53 : decode cX2_build 53 = .ok (.iadd, 1) := by decide +kernel
theorem dX2_build_54 : decode cX2_build 54 = .ok (.istore_n 3, 1) := by decide +kernel
theorem dX2_build_55 : decode cX2_build 55 = .ok (.iload_n 3, 1) := by decide +kernel
theorem dX2_build_56 : decode cX2_build 56 = .ok (.bipush 16, 2) := by decide +kernel
theorem dX2_build_58 : decode cX2_build 58 = .ok (.if_icmp .ge 29, 3) := by decide +kernel
theorem dX2_build_61 : decode cX2_build 61 = .ok (.aload_n 0, 1) := by decide +kernel
theorem dX2_build_62 : decode cX2_build 62 = .ok (.getfield 22, 3) := by decide +kernel
theorem dX2_build_65 : decode cX2_build 65 = .ok (.iload_n 2, 1) := by decide +kernel
theorem dX2_build_66 : decode cX2_build 66 = .ok (.iaload, 1) := by decide +kernel
theorem dX2_build_67 : decode cX2_build 67 = .ok (.iload_n 3, 1) := by decide +kernel
theorem dX2_build_68 : decode cX2_build 68 = .ok (.invokestatic 43, 3) := by decide +kernel
theorem dX2_build_71 : decode cX2_build 71 = .ok (.ifCond .eq 10, 3) := by decide +kernel
theorem dX2_build_74 : decode cX2_build 74 = .ok (.aload_n 1, 1) := by decide +kernel
theorem dX2_build_75 : decode cX2_build 75 = .ok (.iload_n 2, 1) := by decide +kernel
theorem dX2_build_76 : decode cX2_build 76 = .ok (.iload_n 3, 1) := by decide +kernel
theorem dX2_build_77 : decode cX2_build 77 = .ok (.iconst 1, 1) := by decide +kernel
theorem dX2_build_78 : decode cX2_build 78 = .ok (.invokevirtual 47, 3) := by decide +kernel
theorem dX2_build_81 : decode cX2_build 81 = .ok (.iinc 3 1, 3) := by decide +kernel
theorem dX2_build_84 : decode cX2_build 84 = .ok (.goto (-29), 3) := by decide +kernel
theorem dX2_build_87 : decode cX2_build 87 = .ok (.iinc 2 1, 3) := by decide +kernel
theorem dX2_build_90 : decode cX2_build 90 = .ok (.goto (-45), 3) := by decide +kernel
theorem dX2_build_93 : decode cX2_build 93 = .ok (.aload_n 1, 1) := by decide +kernel
theorem dX2_build_94 : decode cX2_build 94 = .ok (.invokevirtual 51, 3) := by decide +kernel
theorem dX2_build_97 : decode cX2_build 97 = .ok (.return_, 1) := by decide +kernel
theorem dX2_parse_0 : decode cX2_parse 0 = .ok (.aload_n 0, 1) := by decide +kernel
theorem dX2_parse_1 : decode cX2_parse 1 = .ok (.iconst 0, 1) := by decide +kernel
theorem dX2_parse_2 : decode cX2_parse 2 = .ok (.putfield 29, 3) := by decide +kernel
theorem dX2_parse_5 : decode cX2_parse 5 = .ok (.aload_n 0, 1) := by decide +kernel
theorem dX2_parse_6 : decode cX2_parse 6 = .ok (.iconst 0, 1) := by decide +kernel
theorem dX2_parse_7 : decode cX2_parse 7 = .ok (.putfield 37, 3) := by decide +kernel
theorem dX2_parse_10 : decode cX2_parse 10 = .ok (.iconst 0, 1) := by decide +kernel
theorem dX2_parse_11 : decode cX2_parse 11 = .ok (.istore_n 1, 1) := by decide +kernel
theorem dX2_parse_12 : decode cX2_parse 12 = .ok (.iload_n 1, 1) := by decide +kernel
theorem dX2_parse_13 : decode cX2_parse 13 = .ok (.bipush 16, 2) := by decide +kernel
theorem dX2_parse_15 : decode cX2_parse 15 = .ok (.if_icmp .ge 16, 3) := by decide +kernel
theorem dX2_parse_18 : decode cX2_parse 18 = .ok (.aload_n 0, 1) := by decide +kernel
theorem dX2_parse_19 : decode cX2_parse 19 = .ok (.getfield 22, 3) := by decide +kernel
theorem dX2_parse_22 : decode cX2_parse 22 = .ok (.iload_n 1, 1) := by decide +kernel
theorem dX2_parse_23 : decode cX2_parse 23 = .ok (.iconst 0, 1) := by decide +kernel
theorem dX2_parse_24 : decode cX2_parse 24 = .ok (.iastore, 1) := by decide +kernel
theorem dX2_parse_25 : decode cX2_parse 25 = .ok (.iinc 1 1, 3) := by decide +kernel
theorem dX2_parse_28 : decode cX2_parse 28 = .ok (.goto (-16), 3) := by decide +kernel
theorem dX2_parse_31 : decode cX2_parse 31 = .ok (.aload_n 0, 1) := by decide +kernel
theorem dX2_parse_32 : decode cX2_parse 32 = .ok (.invokevirtual 54, 3) := by decide +kernel
theorem dX2_parse_35 : decode cX2_parse 35 = .ok (.ifCond .ne 5, 3) := by decide +kernel
theorem dX2_parse_38 : decode cX2_parse 38 = .ok (.iconst 0, 1) := by decide +kernel
theorem dX2_parse_39 : decode cX2_parse 39 = .ok (.ireturn, 1) := by decide +kernel
theorem dX2_parse_40 : decode cX2_parse 40 = .ok (.aload_n 0, 1) := by decide +kernel
theorem dX2_parse_41 : decode cX2_parse 41 = .ok (.invokevirtual 58, 3) := by decide +kernel
theorem dX2_parse_44 : decode cX2_parse 44 = .ok (.iconst (-1), 1) := by decide +kernel
theorem dX2_parse_45 : decode cX2_parse 45 = .ok (.if_icmp .ne 5, 3) := by decide +kernel
theorem dX2_parse_48 : decode cX2_parse 48 = .ok (.iconst 1, 1) := by decide +kernel
theorem dX2_parse_49 : decode cX2_parse 49 = .ok (.ireturn, 1) := by decide +kernel
theorem dX2_parse_50 : decode cX2_parse 50 = .ok (.aload_n 0, 1) := by decide +kernel
theorem dX2_parse_51 : decode cX2_parse 51 = .ok (.getfield 37, 3) := by decide +kernel
theorem dX2_parse_54 : decode cX2_parse 54 = .ok (.iconst 2, 1) := by decide +kernel
theorem dX2_parse_55 : decode cX2_parse 55 = .ok (.if_icmp .lt 23, 3) := by decide +kernel
theorem dX2_parse_58 : decode cX2_parse 58 = .ok (.aload_n 0, 1) := by decide +kernel
theorem dX2_parse_59 : decode cX2_parse 59 = .ok (.bipush 59, 2) := by decide +kernel
theorem dX2_parse_61 : decode cX2_parse 61 = .ok (.invokevirtual 62, 3) := by decide +kernel
theorem dX2_parse_64 : decode cX2_parse 64 = .ok (.ifCond .eq 14, 3) := by decide +kernel
theorem dX2_parse_67 : decode cX2_parse 67 = .ok (.aload_n 0, 1) := by decide +kernel
theorem dX2_parse_68 : decode cX2_parse 68 = .ok (.invokevirtual 66, 3) := by decide +kernel
theorem dX2_parse_71 : decode cX2_parse 71 = .ok (.ifCond .eq 7, 3) := by decide +kernel
theorem dX2_parse_74 : decode cX2_parse 74 = .ok (.iconst 1, 1) := by decide +kernel
theorem dX2_parse_75 : decode cX2_parse 75 = .ok (.goto 4, 3) := by decide +kernel
theorem dX2_parse_78 : decode cX2_parse 78 = .ok (.iconst 0, 1) := by decide +kernel
theorem dX2_parse_79 : decode cX2_parse 79 = .ok (.ireturn, 1) := by decide +kernel
theorem dX2_parseLamps_0 : decode cX2_parseLamps 0 = .ok (.iconst 0, 1) := by decide +kernel
theorem dX2_parseLamps_1 : decode cX2_parseLamps 1 = .ok (.istore_n 1, 1) := by decide +kernel
theorem dX2_parseLamps_2 : decode cX2_parseLamps 2 = .ok (.iload_n 1, 1) := by decide +kernel
theorem dX2_parseLamps_3 : decode cX2_parseLamps 3 = .ok (.bipush 16, 2) := by decide +kernel
theorem dX2_parseLamps_5 : decode cX2_parseLamps 5 = .ok (.if_icmp .ge 46, 3) := by decide +kernel
theorem dX2_parseLamps_8 : decode cX2_parseLamps 8 = .ok (.aload_n 0, 1) := by decide +kernel
theorem dX2_parseLamps_9 : decode cX2_parseLamps 9 = .ok (.iload_n 1, 1) := by decide +kernel
theorem dX2_parseLamps_10 : decode cX2_parseLamps 10 = .ok (.invokevirtual 69, 3) := by decide +kernel
theorem dX2_parseLamps_13 : decode cX2_parseLamps 13 = .ok (.ifCond .ne 5, 3) := by decide +kernel
theorem dX2_parseLamps_16 : decode cX2_parseLamps 16 = .ok (.iconst 0, 1) := by decide +kernel
theorem dX2_parseLamps_17 : decode cX2_parseLamps 17 = .ok (.ireturn, 1) := by decide +kernel
theorem dX2_parseLamps_18 : decode cX2_parseLamps 18 = .ok (.aload_n 0, 1) := by decide +kernel
theorem dX2_parseLamps_19 : decode cX2_parseLamps 19 = .ok (.iload_n 1, 1) := by decide +kernel
theorem dX2_parseLamps_20 : decode cX2_parseLamps 20 = .ok (.iconst 1, 1) := by decide +kernel
theorem dX2_parseLamps_21 : decode cX2_parseLamps 21 = .ok (.iadd, 1) := by decide +kernel
theorem dX2_parseLamps_22 : decode cX2_parseLamps 22 = .ok (.putfield 37, 3) := by decide +kernel
theorem dX2_parseLamps_25 : decode cX2_parseLamps 25 = .ok (.aload_n 0, 1) := by decide +kernel
theorem dX2_parseLamps_26 : decode cX2_parseLamps 26 = .ok (.getfield 37, 3) := by decide +kernel
theorem dX2_parseLamps_29 : decode cX2_parseLamps 29 = .ok (.bipush 16, 2) := by decide +kernel
theorem dX2_parseLamps_31 : decode cX2_parseLamps 31 = .ok (.if_icmp .ge 14, 3) := by decide +kernel
theorem dX2_parseLamps_34 : decode cX2_parseLamps 34 = .ok (.aload_n 0, 1) := by decide +kernel
theorem dX2_parseLamps_35 : decode cX2_parseLamps 35 = .ok (.bipush 44, 2) := by decide +kernel
theorem dX2_parseLamps_37 : decode cX2_parseLamps 37 = .ok (.invokevirtual 62, 3) := by decide +kernel
theorem dX2_parseLamps_40 : decode cX2_parseLamps 40 = .ok (.ifCond .ne 5, 3) := by decide +kernel
theorem dX2_parseLamps_43 : decode cX2_parseLamps 43 = .ok (.iconst 1, 1) := by decide +kernel
theorem dX2_parseLamps_44 : decode cX2_parseLamps 44 = .ok (.ireturn, 1) := by decide +kernel
theorem dX2_parseLamps_45 : decode cX2_parseLamps 45 = .ok (.iinc 1 1, 3) := by decide +kernel
theorem dX2_parseLamps_48 : decode cX2_parseLamps 48 = .ok (.goto (-46), 3) := by decide +kernel
theorem dX2_parseLamps_51 : decode cX2_parseLamps 51 = .ok (.iconst 1, 1) := by decide +kernel
theorem dX2_parseLamps_52 : decode cX2_parseLamps 52 = .ok (.ireturn, 1) := by decide +kernel
theorem dX2_parseLamp_0 : decode cX2_parseLamp 0 = .ok (.aload_n 0, 1) := by decide +kernel
theorem dX2_parseLamp_1 : decode cX2_parseLamp 1 = .ok (.getfield 15, 3) := by decide +kernel
theorem dX2_parseLamp_4 : decode cX2_parseLamp 4 = .ok (.iload_n 1, 1) := by decide +kernel
theorem dX2_parseLamp_5 : decode cX2_parseLamp 5 = .ok (.aload_n 0, 1) := by decide +kernel
theorem dX2_parseLamp_6 : decode cX2_parseLamp 6 = .ok (.iconst 0, 1) := by decide +kernel
theorem dX2_parseLamp_7 : decode cX2_parseLamp 7 = .ok (.sipush 199, 3) := by decide +kernel
theorem dX2_parseLamp_10 : decode cX2_parseLamp 10 = .ok (.invokevirtual 73, 3) := by decide +kernel
theorem dX2_parseLamp_13 : decode cX2_parseLamp 13 = .ok (.iastore, 1) := by decide +kernel
theorem dX2_parseLamp_14 : decode cX2_parseLamp 14 = .ok (.aload_n 0, 1) := by decide +kernel
theorem dX2_parseLamp_15 : decode cX2_parseLamp 15 = .ok (.getfield 19, 3) := by decide +kernel
theorem dX2_parseLamp_18 : decode cX2_parseLamp 18 = .ok (.iload_n 1, 1) := by decide +kernel
theorem dX2_parseLamp_19 : decode cX2_parseLamp 19 = .ok (.bipush 100, 2) := by decide +kernel
theorem dX2_parseLamp_21 : decode cX2_parseLamp 21 = .ok (.iastore, 1) := by decide +kernel
theorem dX2_parseLamp_22 : decode cX2_parseLamp 22 = .ok (.aload_n 0, 1) := by decide +kernel
theorem dX2_parseLamp_23 : decode cX2_parseLamp 23 = .ok (.getfield 15, 3) := by decide +kernel
theorem dX2_parseLamp_26 : decode cX2_parseLamp 26 = .ok (.iload_n 1, 1) := by decide +kernel
theorem dX2_parseLamp_27 : decode cX2_parseLamp 27 = .ok (.iaload, 1) := by decide +kernel
theorem dX2_parseLamp_28 : decode cX2_parseLamp 28 = .ok (.iconst (-1), 1) := by decide +kernel
theorem dX2_parseLamp_29 : decode cX2_parseLamp 29 = .ok (.if_icmp .eq 27, 3) := by decide +kernel
theorem dX2_parseLamp_32 : decode cX2_parseLamp 32 = .ok (.aload_n 0, 1) := by decide +kernel
theorem dX2_parseLamp_33 : decode cX2_parseLamp 33 = .ok (.bipush 42, 2) := by decide +kernel
theorem dX2_parseLamp_35 : decode cX2_parseLamp 35 = .ok (.invokevirtual 62, 3) := by decide +kernel
theorem dX2_parseLamp_38 : decode cX2_parseLamp 38 = .ok (.ifCond .eq 18, 3) := by decide +kernel
theorem dX2_parseLamp_41 : decode cX2_parseLamp 41 = .ok (.aload_n 0, 1) := by decide +kernel
theorem dX2_parseLamp_42 : decode cX2_parseLamp 42 = .ok (.getfield 19, 3) := by decide +kernel
theorem dX2_parseLamp_45 : decode cX2_parseLamp 45 = .ok (.iload_n 1, 1) := by decide +kernel
theorem dX2_parseLamp_46 : decode cX2_parseLamp 46 = .ok (.aload_n 0, 1) := by decide +kernel
theorem dX2_parseLamp_47 : decode cX2_parseLamp 47 = .ok (.bipush 50, 2) := by decide +kernel
theorem dX2_parseLamp_49 : decode cX2_parseLamp 49 = .ok (.sipush 150, 3) := by decide +kernel
theorem dX2_parseLamp_52 : decode cX2_parseLamp 52 = .ok (.invokevirtual 73, 3) := by decide +kernel
theorem dX2_parseLamp_55 : decode cX2_parseLamp 55 = .ok (.iastore, 1) := by decide +kernel
theorem dX2_parseLamp_56 : decode cX2_parseLamp 56 = .ok (.aload_n 0, 1) := by decide +kernel
theorem dX2_parseLamp_57 : decode cX2_parseLamp 57 = .ok (.getfield 15, 3) := by decide +kernel
theorem dX2_parseLamp_60 : decode cX2_parseLamp 60 = .ok (.iload_n 1, 1) := by decide +kernel
theorem dX2_parseLamp_61 : decode cX2_parseLamp 61 = .ok (.iaload, 1) := by decide +kernel
theorem dX2_parseLamp_62 : decode cX2_parseLamp 62 = .ok (.iconst (-1), 1) := by decide +kernel
theorem dX2_parseLamp_63 : decode cX2_parseLamp 63 = .ok (.if_icmp .eq 17, 3) := by decide +kernel
theorem dX2_parseLamp_66 : decode cX2_parseLamp 66 = .ok (.aload_n 0, 1) := by decide +kernel
theorem dX2_parseLamp_67 : decode cX2_parseLamp 67 = .ok (.getfield 19, 3) := by decide +kernel
theorem dX2_parseLamp_70 : decode cX2_parseLamp 70 = .ok (.iload_n 1, 1) := by decide +kernel
theorem dX2_parseLamp_71 : decode cX2_parseLamp 71 = .ok (.iaload, 1) := by decide +kernel
theorem dX2_parseLamp_72 : decode cX2_parseLamp 72 = .ok (.iconst (-1), 1) := by decide +kernel
theorem dX2_parseLamp_73 : decode cX2_parseLamp 73 = .ok (.if_icmp .eq 7, 3) := by decide +kernel
theorem dX2_parseLamp_76 : decode cX2_parseLamp 76 = .ok (.iconst 1, 1) := by decide +kernel
theorem dX2_parseLamp_77 : decode cX2_parseLamp 77 = .ok (.goto 4, 3) := by decide +kernel
theorem dX2_parseLamp_80 : decode cX2_parseLamp 80 = .ok (.iconst 0, 1) := by decide +kernel
theorem dX2_parseLamp_81 : decode cX2_parseLamp 81 = .ok (.ireturn, 1) := by decide +kernel
theorem dX2_parseNumber_0 : decode cX2_parseNumber 0 = .ok (.iconst (-1), 1) := by decide +kernel
theorem dX2_parseNumber_1 : decode cX2_parseNumber 1 = .ok (.istore_n 3, 1) := by decide +kernel
theorem dX2_parseNumber_2 : decode cX2_parseNumber 2 = .ok (.iconst 0, 1) := by decide +kernel
theorem dX2_parseNumber_3 : decode cX2_parseNumber 3 = .ok (.istore 4, 2) := by decide +kernel
theorem dX2_parseNumber_5 : decode cX2_parseNumber 5 = .ok (.iload 4, 2) := by decide +kernel
theorem dX2_parseNumber_7 : decode cX2_parseNumber 7 = .ok (.iconst 3, 1) := by decide +kernel
theorem dX2_parseNumber_8 : decode cX2_parseNumber 8 = .ok (.if_icmp .ge 81, 3) := by decide +kernel
theorem dX2_parseNumber_11 : decode cX2_parseNumber 11 = .ok (.aload_n 0, 1) := by decide +kernel
theorem dX2_parseNumber_12 : decode cX2_parseNumber 12 = .ok (.invokevirtual 58, 3) := by decide +kernel
theorem dX2_parseNumber_15 : decode cX2_parseNumber 15 = .ok (.bipush 48, 2) := by decide +kernel
theorem dX2_parseNumber_17 : decode cX2_parseNumber 17 = .ok (.isub, 1) := by decide +kernel
theorem dX2_parseNumber_18 : decode cX2_parseNumber 18 = .ok (.istore 5, 2) := by decide +kernel
theorem dX2_parseNumber_20 : decode cX2_parseNumber 20 = .ok (.iload 5, 2) := by decide +kernel
theorem dX2_parseNumber_22 : decode cX2_parseNumber 22 = .ok (.ifCond .lt 67, 3) := by decide +kernel
theorem dX2_parseNumber_25 : decode cX2_parseNumber 25 = .ok (.iload 5, 2) := by decide +kernel
theorem dX2_parseNumber_27 : decode cX2_parseNumber 27 = .ok (.bipush 9, 2) := by decide +kernel
theorem dX2_parseNumber_29 : decode cX2_parseNumber 29 = .ok (.if_icmp .gt 60, 3) := by decide +kernel
theorem dX2_parseNumber_32 : decode cX2_parseNumber 32 = .ok (.iload_n 3, 1) := by decide +kernel
theorem dX2_parseNumber_33 : decode cX2_parseNumber 33 = .ok (.ifCond .ne 6, 3) := by decide +kernel
theorem dX2_parseNumber_36 : decode cX2_parseNumber 36 = .ok (.goto 53, 3) := by decide +kernel
theorem dX2_parseNumber_39 : decode cX2_parseNumber 39 = .ok (.iload 4, 2) := by decide +kernel
theorem dX2_parseNumber_41 : decode cX2_parseNumber 41 = .ok (.ifCond .ne 8, 3) := by decide +kernel
theorem dX2_parseNumber_44 : decode cX2_parseNumber 44 = .ok (.iload 5, 2) := by decide +kernel
theorem dX2_parseNumber_46 : decode cX2_parseNumber 46 = .ok (.goto 10, 3) := by decide +kernel
theorem dX2_parseNumber_49 : decode cX2_parseNumber 49 = .ok (.iload_n 3, 1) := by decide +kernel
theorem dX2_parseNumber_50 : decode cX2_parseNumber 50 = .ok (.bipush 10, 2) := by decide +kernel
theorem dX2_parseNumber_52 : decode cX2_parseNumber 52 = .ok (.imul, 1) := by decide +kernel
theorem dX2_parseNumber_53 : decode cX2_parseNumber 53 = .ok (.iload 5, 2) := by decide +kernel
theorem dX2_parseNumber_55 : decode cX2_parseNumber 55 = .ok (.iadd, 1) := by decide +kernel
theorem dX2_parseNumber_56 : decode cX2_parseNumber 56 = .ok (.istore 6, 2) := by decide +kernel
theorem dX2_parseNumber_58 : decode cX2_parseNumber 58 = .ok (.iload 6, 2) := by decide +kernel
theorem dX2_parseNumber_60 : decode cX2_parseNumber 60 = .ok (.iload_n 1, 1) := by decide +kernel
theorem dX2_parseNumber_61 : decode cX2_parseNumber 61 = .ok (.iload_n 2, 1) := by decide +kernel
theorem dX2_parseNumber_62 : decode cX2_parseNumber 62 = .ok (.invokestatic 77, 3) := by decide +kernel
theorem dX2_parseNumber_65 : decode cX2_parseNumber 65 = .ok (.ifCond .ne 5, 3) := by decide +kernel
theorem dX2_parseNumber_68 : decode cX2_parseNumber 68 = .ok (.iconst (-1), 1) := by decide +kernel
theorem dX2_parseNumber_69 : decode cX2_parseNumber 69 = .ok (.ireturn, 1) := by decide +kernel
theorem dX2_parseNumber_70 : decode cX2_parseNumber 70 = .ok (.iload 6, 2) := by decide +kernel
theorem dX2_parseNumber_72 : decode cX2_parseNumber 72 = .ok (.istore_n 3, 1) := by decide +kernel
theorem dX2_parseNumber_73 : decode cX2_parseNumber 73 = .ok (.aload_n 0, 1) := by decide +kernel
theorem dX2_parseNumber_74 : decode cX2_parseNumber 74 = .ok (.dup, 1) := by decide +kernel
theorem dX2_parseNumber_75 : decode cX2_parseNumber 75 = .ok (.getfield 29, 3) := by decide +kernel
theorem dX2_parseNumber_78 : decode cX2_parseNumber 78 = .ok (.iconst 1, 1) := by decide +kernel
theorem dX2_parseNumber_79 : decode cX2_parseNumber 79 = .ok (.iadd, 1) := by decide +kernel
theorem dX2_parseNumber_80 : decode cX2_parseNumber 80 = .ok (.putfield 29, 3) := by decide +kernel
theorem dX2_parseNumber_83 : decode cX2_parseNumber 83 = .ok (.iinc 4 1, 3) := by decide +kernel
theorem dX2_parseNumber_86 : decode cX2_parseNumber 86 = .ok (.goto (-81), 3) := by decide +kernel
theorem dX2_parseNumber_89 : decode cX2_parseNumber 89 = .ok (.iload_n 3, 1) := by decide +kernel
theorem dX2_parseNumber_90 : decode cX2_parseNumber 90 = .ok (.iload_n 1, 1) := by decide +kernel
theorem dX2_parseNumber_91 : decode cX2_parseNumber 91 = .ok (.if_icmp .ge 7, 3) := by decide +kernel
theorem dX2_parseNumber_94 : decode cX2_parseNumber 94 = .ok (.iconst (-1), 1) := by decide +kernel
theorem dX2_parseNumber_95 : decode cX2_parseNumber 95 = .ok (.goto 4, 3) := by decide +kernel
theorem dX2_parseNumber_98 : decode cX2_parseNumber 98 = .ok (.iload_n 3, 1) := by decide +kernel
theorem dX2_parseNumber_99 : decode cX2_parseNumber 99 = .ok (.ireturn, 1) := by decide +kernel
theorem dX2_begins_0 : decode cX2_begins 0 = .ok (.iload_n 0, 1) := by decide +kernel
theorem dX2_begins_1 : decode cX2_begins 1 = .ok (.ifCond .ne 13, 3) := by decide +kernel
theorem dX2_begins_4 : decode cX2_begins 4 = .ok (.iload_n 1, 1) := by decide +kernel
theorem dX2_begins_5 : decode cX2_begins 5 = .ok (.ifCond .ne 7, 3) := by decide +kernel
theorem dX2_begins_8 : decode cX2_begins 8 = .ok (.iconst 1, 1) := by decide +kernel
theorem dX2_begins_9 : decode cX2_begins 9 = .ok (.goto 4, 3) := by decide +kernel
theorem dX2_begins_12 : decode cX2_begins 12 = .ok (.iconst 0, 1) := by decide +kernel
theorem dX2_begins_13 : decode cX2_begins 13 = .ok (.ireturn, 1) := by decide +kernel
theorem dX2_begins_14 : decode cX2_begins 14 = .ok (.iload_n 0, 1) := by decide +kernel
theorem dX2_begins_15 : decode cX2_begins 15 = .ok (.istore_n 3, 1) := by decide +kernel
theorem dX2_begins_16 : decode cX2_begins 16 = .ok (.iload_n 0, 1) := by decide +kernel
theorem dX2_begins_17 : decode cX2_begins 17 = .ok (.istore 4, 2) := by decide +kernel
theorem dX2_begins_19 : decode cX2_begins 19 = .ok (.iconst 0, 1) := by decide +kernel
theorem dX2_begins_20 : decode cX2_begins 20 = .ok (.istore 5, 2) := by decide +kernel
theorem dX2_begins_22 : decode cX2_begins 22 = .ok (.iload 5, 2) := by decide +kernel
theorem dX2_begins_24 : decode cX2_begins 24 = .ok (.iconst 3, 1) := by decide +kernel
theorem dX2_begins_25 : decode cX2_begins 25 = .ok (.if_icmp .ge 37, 3) := by decide +kernel
theorem dX2_begins_28 : decode cX2_begins 28 = .ok (.iload_n 3, 1) := by decide +kernel
theorem dX2_begins_29 : decode cX2_begins 29 = .ok (.iload_n 2, 1) := by decide +kernel
theorem dX2_begins_30 : decode cX2_begins 30 = .ok (.if_icmp .gt 11, 3) := by decide +kernel
theorem dX2_begins_33 : decode cX2_begins 33 = .ok (.iload 4, 2) := by decide +kernel
theorem dX2_begins_35 : decode cX2_begins 35 = .ok (.iload_n 1, 1) := by decide +kernel
theorem dX2_begins_36 : decode cX2_begins 36 = .ok (.if_icmp .lt 5, 3) := by decide +kernel
theorem dX2_begins_39 : decode cX2_begins 39 = .ok (.iconst 1, 1) := by decide +kernel
theorem dX2_begins_40 : decode cX2_begins 40 = .ok (.ireturn, 1) := by decide +kernel
theorem dX2_begins_41 : decode cX2_begins 41 = .ok (.iload_n 3, 1) := by decide +kernel
theorem dX2_begins_42 : decode cX2_begins 42 = .ok (.bipush 10, 2) := by decide +kernel
theorem dX2_begins_44 : decode cX2_begins 44 = .ok (.imul, 1) := by decide +kernel
theorem dX2_begins_45 : decode cX2_begins 45 = .ok (.istore_n 3, 1) := by decide +kernel
theorem dX2_begins_46 : decode cX2_begins 46 = .ok (.iload 4, 2) := by decide +kernel
theorem dX2_begins_48 : decode cX2_begins 48 = .ok (.bipush 10, 2) := by decide +kernel
theorem dX2_begins_50 : decode cX2_begins 50 = .ok (.imul, 1) := by decide +kernel
theorem dX2_begins_51 : decode cX2_begins 51 = .ok (.bipush 9, 2) := by decide +kernel
theorem dX2_begins_53 : decode cX2_begins 53 = .ok (.iadd, 1) := by decide +kernel
theorem dX2_begins_54 : decode cX2_begins 54 = .ok (.istore 4, 2) := by decide +kernel
theorem dX2_begins_56 : decode cX2_begins 56 = .ok (.iinc 5 1, 3) := by decide +kernel
theorem dX2_begins_59 : decode cX2_begins 59 = .ok (.goto (-37), 3) := by decide +kernel
theorem dX2_begins_62 : decode cX2_begins 62 = .ok (.iconst 0, 1) := by decide +kernel
theorem dX2_begins_63 : decode cX2_begins 63 = .ok (.ireturn, 1) := by decide +kernel
theorem dX2_parseLinks_0 : decode cX2_parseLinks 0 = .ok (.iconst 0, 1) := by decide +kernel
theorem dX2_parseLinks_1 : decode cX2_parseLinks 1 = .ok (.istore_n 1, 1) := by decide +kernel
theorem dX2_parseLinks_2 : decode cX2_parseLinks 2 = .ok (.iload_n 1, 1) := by decide +kernel
theorem dX2_parseLinks_3 : decode cX2_parseLinks 3 = .ok (.bipush 60, 2) := by decide +kernel
theorem dX2_parseLinks_5 : decode cX2_parseLinks 5 = .ok (.if_icmp .ge 39, 3) := by decide +kernel
theorem dX2_parseLinks_8 : decode cX2_parseLinks 8 = .ok (.aload_n 0, 1) := by decide +kernel
theorem dX2_parseLinks_9 : decode cX2_parseLinks 9 = .ok (.invokevirtual 81, 3) := by decide +kernel
theorem dX2_parseLinks_12 : decode cX2_parseLinks 12 = .ok (.ifCond .ne 5, 3) := by decide +kernel
theorem dX2_parseLinks_15 : decode cX2_parseLinks 15 = .ok (.iconst 0, 1) := by decide +kernel
theorem dX2_parseLinks_16 : decode cX2_parseLinks 16 = .ok (.ireturn, 1) := by decide +kernel
theorem dX2_parseLinks_17 : decode cX2_parseLinks 17 = .ok (.aload_n 0, 1) := by decide +kernel
theorem dX2_parseLinks_18 : decode cX2_parseLinks 18 = .ok (.invokevirtual 58, 3) := by decide +kernel
theorem dX2_parseLinks_21 : decode cX2_parseLinks 21 = .ok (.iconst (-1), 1) := by decide +kernel
theorem dX2_parseLinks_22 : decode cX2_parseLinks 22 = .ok (.if_icmp .ne 5, 3) := by decide +kernel
theorem dX2_parseLinks_25 : decode cX2_parseLinks 25 = .ok (.iconst 1, 1) := by decide +kernel
theorem dX2_parseLinks_26 : decode cX2_parseLinks 26 = .ok (.ireturn, 1) := by decide +kernel
theorem dX2_parseLinks_27 : decode cX2_parseLinks 27 = .ok (.aload_n 0, 1) := by decide +kernel
theorem dX2_parseLinks_28 : decode cX2_parseLinks 28 = .ok (.bipush 44, 2) := by decide +kernel
theorem dX2_parseLinks_30 : decode cX2_parseLinks 30 = .ok (.invokevirtual 62, 3) := by decide +kernel
theorem dX2_parseLinks_33 : decode cX2_parseLinks 33 = .ok (.ifCond .ne 5, 3) := by decide +kernel
theorem dX2_parseLinks_36 : decode cX2_parseLinks 36 = .ok (.iconst 0, 1) := by decide +kernel
theorem dX2_parseLinks_37 : decode cX2_parseLinks 37 = .ok (.ireturn, 1) := by decide +kernel
theorem dX2_parseLinks_38 : decode cX2_parseLinks 38 = .ok (.iinc 1 1, 3) := by decide +kernel
theorem dX2_parseLinks_41 : decode cX2_parseLinks 41 = .ok (.goto (-39), 3) := by decide +kernel
theorem dX2_parseLinks_44 : decode cX2_parseLinks 44 = .ok (.iconst 0, 1) := by decide +kernel
theorem dX2_parseLinks_45 : decode cX2_parseLinks 45 = .ok (.ireturn, 1) := by decide +kernel
theorem dX2_parseLink_0 : decode cX2_parseLink 0 = .ok (.aload_n 0, 1) := by decide +kernel
theorem dX2_parseLink_1 : decode cX2_parseLink 1 = .ok (.iconst (-1), 1) := by decide +kernel
theorem dX2_parseLink_2 : decode cX2_parseLink 2 = .ok (.invokevirtual 84, 3) := by decide +kernel
theorem dX2_parseLink_5 : decode cX2_parseLink 5 = .ok (.istore_n 1, 1) := by decide +kernel
theorem dX2_parseLink_6 : decode cX2_parseLink 6 = .ok (.iload_n 1, 1) := by decide +kernel
theorem dX2_parseLink_7 : decode cX2_parseLink 7 = .ok (.iconst (-1), 1) := by decide +kernel
theorem dX2_parseLink_8 : decode cX2_parseLink 8 = .ok (.if_icmp .ne 5, 3) := by decide +kernel
theorem dX2_parseLink_11 : decode cX2_parseLink 11 = .ok (.iconst 0, 1) := by decide +kernel
theorem dX2_parseLink_12 : decode cX2_parseLink 12 = .ok (.ireturn, 1) := by decide +kernel
theorem dX2_parseLink_13 : decode cX2_parseLink 13 = .ok (.aload_n 0, 1) := by decide +kernel
theorem dX2_parseLink_14 : decode cX2_parseLink 14 = .ok (.iload_n 1, 1) := by decide +kernel
theorem dX2_parseLink_15 : decode cX2_parseLink 15 = .ok (.invokevirtual 84, 3) := by decide +kernel
theorem dX2_parseLink_18 : decode cX2_parseLink 18 = .ok (.istore_n 2, 1) := by decide +kernel
theorem dX2_parseLink_19 : decode cX2_parseLink 19 = .ok (.iload_n 2, 1) := by decide +kernel
theorem dX2_parseLink_20 : decode cX2_parseLink 20 = .ok (.iconst (-1), 1) := by decide +kernel
theorem dX2_parseLink_21 : decode cX2_parseLink 21 = .ok (.if_icmp .ne 5, 3) := by decide +kernel
theorem dX2_parseLink_24 : decode cX2_parseLink 24 = .ok (.iconst 0, 1) := by decide +kernel
theorem dX2_parseLink_25 : decode cX2_parseLink 25 = .ok (.ireturn, 1) := by decide +kernel
theorem dX2_parseLink_26 : decode cX2_parseLink 26 = .ok (.aload_n 0, 1) := by decide +kernel
theorem dX2_parseLink_27 : decode cX2_parseLink 27 = .ok (.getfield 22, 3) := by decide +kernel
theorem dX2_parseLink_30 : decode cX2_parseLink 30 = .ok (.iload_n 1, 1) := by decide +kernel
theorem dX2_parseLink_31 : decode cX2_parseLink 31 = .ok (.dup2, 1) := by decide +kernel
theorem dX2_parseLink_32 : decode cX2_parseLink 32 = .ok (.iaload, 1) := by decide +kernel
theorem dX2_parseLink_33 : decode cX2_parseLink 33 = .ok (.iconst 1, 1) := by decide +kernel
theorem dX2_parseLink_34 : decode cX2_parseLink 34 = .ok (.iload_n 2, 1) := by decide +kernel
theorem dX2_parseLink_35 : decode cX2_parseLink 35 = .ok (.ishl, 1) := by decide +kernel
theorem dX2_parseLink_36 : decode cX2_parseLink 36 = .ok (.ior, 1) := by decide +kernel
theorem dX2_parseLink_37 : decode cX2_parseLink 37 = .ok (.iastore, 1) := by decide +kernel
theorem dX2_parseLink_38 : decode cX2_parseLink 38 = .ok (.aload_n 0, 1) := by decide +kernel
theorem dX2_parseLink_39 : decode cX2_parseLink 39 = .ok (.getfield 22, 3) := by decide +kernel
theorem dX2_parseLink_42 : decode cX2_parseLink 42 = .ok (.iload_n 2, 1) := by decide +kernel
theorem dX2_parseLink_43 : decode cX2_parseLink 43 = .ok (.dup2, 1) := by decide +kernel
theorem dX2_parseLink_44 : decode cX2_parseLink 44 = .ok (.iaload, 1) := by decide +kernel
theorem dX2_parseLink_45 : decode cX2_parseLink 45 = .ok (.iconst 1, 1) := by decide +kernel
theorem dX2_parseLink_46 : decode cX2_parseLink 46 = .ok (.iload_n 1, 1) := by decide +kernel
theorem dX2_parseLink_47 : decode cX2_parseLink 47 = .ok (.ishl, 1) := by decide +kernel
theorem dX2_parseLink_48 : decode cX2_parseLink 48 = .ok (.ior, 1) := by decide +kernel
theorem dX2_parseLink_49 : decode cX2_parseLink 49 = .ok (.iastore, 1) := by decide +kernel
theorem dX2_parseLink_50 : decode cX2_parseLink 50 = .ok (.iconst 1, 1) := by decide +kernel
theorem dX2_parseLink_51 : decode cX2_parseLink 51 = .ok (.ireturn, 1) := by decide +kernel
theorem dX2_parseLetter_0 : decode cX2_parseLetter 0 = .ok (.aload_n 0, 1) := by decide +kernel
theorem dX2_parseLetter_1 : decode cX2_parseLetter 1 = .ok (.invokevirtual 58, 3) := by decide +kernel
theorem dX2_parseLetter_4 : decode cX2_parseLetter 4 = .ok (.bipush 97, 2) := by decide +kernel
theorem dX2_parseLetter_6 : decode cX2_parseLetter 6 = .ok (.isub, 1) := by decide +kernel
theorem dX2_parseLetter_7 : decode cX2_parseLetter 7 = .ok (.istore_n 2, 1) := by decide +kernel
theorem dX2_parseLetter_8 : decode cX2_parseLetter 8 = .ok (.iload_n 2, 1) := by decide +kernel
theorem dX2_parseLetter_9 : decode cX2_parseLetter 9 = .ok (.ifCond .lt 16, 3) := by decide +kernel
theorem dX2_parseLetter_12 : decode cX2_parseLetter 12 = .ok (.iload_n 2, 1) := by decide +kernel
theorem dX2_parseLetter_13 : decode cX2_parseLetter 13 = .ok (.aload_n 0, 1) := by decide +kernel
theorem dX2_parseLetter_14 : decode cX2_parseLetter 14 = .ok (.getfield 37, 3) := by decide +kernel
theorem dX2_parseLetter_17 : decode cX2_parseLetter 17 = .ok (.if_icmp .ge 8, 3) := by decide +kernel
theorem dX2_parseLetter_20 : decode cX2_parseLetter 20 = .ok (.iload_n 2, 1) := by decide +kernel
theorem dX2_parseLetter_21 : decode cX2_parseLetter 21 = .ok (.iload_n 1, 1) := by decide +kernel
theorem dX2_parseLetter_22 : decode cX2_parseLetter 22 = .ok (.if_icmp .ne 5, 3) := by decide +kernel
theorem dX2_parseLetter_25 : decode cX2_parseLetter 25 = .ok (.iconst (-1), 1) := by decide +kernel
theorem dX2_parseLetter_26 : decode cX2_parseLetter 26 = .ok (.ireturn, 1) := by decide +kernel
theorem dX2_parseLetter_27 : decode cX2_parseLetter 27 = .ok (.aload_n 0, 1) := by decide +kernel
theorem dX2_parseLetter_28 : decode cX2_parseLetter 28 = .ok (.dup, 1) := by decide +kernel
theorem dX2_parseLetter_29 : decode cX2_parseLetter 29 = .ok (.getfield 29, 3) := by decide +kernel
theorem dX2_parseLetter_32 : decode cX2_parseLetter 32 = .ok (.iconst 1, 1) := by decide +kernel
theorem dX2_parseLetter_33 : decode cX2_parseLetter 33 = .ok (.iadd, 1) := by decide +kernel
theorem dX2_parseLetter_34 : decode cX2_parseLetter 34 = .ok (.putfield 29, 3) := by decide +kernel
theorem dX2_parseLetter_37 : decode cX2_parseLetter 37 = .ok (.iload_n 2, 1) := by decide +kernel
theorem dX2_parseLetter_38 : decode cX2_parseLetter 38 = .ok (.ireturn, 1) := by decide +kernel
theorem dX2_current_0 : decode cX2_current 0 = .ok (.aload_n 0, 1) := by decide +kernel
theorem dX2_current_1 : decode cX2_current 1 = .ok (.getfield 29, 3) := by decide +kernel
theorem dX2_current_4 : decode cX2_current 4 = .ok (.ifCond .lt 23, 3) := by decide +kernel
theorem dX2_current_7 : decode cX2_current 7 = .ok (.aload_n 0, 1) := by decide +kernel
theorem dX2_current_8 : decode cX2_current 8 = .ok (.getfield 29, 3) := by decide +kernel
theorem dX2_current_11 : decode cX2_current 11 = .ok (.aload_n 0, 1) := by decide +kernel
theorem dX2_current_12 : decode cX2_current 12 = .ok (.getfield 25, 3) := by decide +kernel
theorem dX2_current_15 : decode cX2_current 15 = .ok (.if_icmp .ge 12, 3) := by decide +kernel
theorem dX2_current_18 : decode cX2_current 18 = .ok (.aload_n 0, 1) := by decide +kernel
theorem dX2_current_19 : decode cX2_current 19 = .ok (.getfield 29, 3) := by decide +kernel
theorem dX2_current_22 : decode cX2_current 22 = .ok (.bipush 60, 2) := by decide +kernel
theorem dX2_current_24 : decode cX2_current 24 = .ok (.if_icmp .lt 5, 3) := by decide +kernel
theorem dX2_current_27 : decode cX2_current 27 = .ok (.iconst (-1), 1) := by decide +kernel
theorem dX2_current_28 : decode cX2_current 28 = .ok (.ireturn, 1) := by decide +kernel
theorem dX2_current_29 : decode cX2_current 29 = .ok (.aload_n 0, 1) := by decide +kernel
theorem dX2_current_30 : decode cX2_current 30 = .ok (.getfield 9, 3) := by decide +kernel
theorem dX2_current_33 : decode cX2_current 33 = .ok (.aload_n 0, 1) := by decide +kernel
theorem dX2_current_34 : decode cX2_current 34 = .ok (.getfield 29, 3) := by decide +kernel
theorem dX2_current_37 : decode cX2_current 37 = .ok (.caload, 1) := by decide +kernel
theorem dX2_current_38 : decode cX2_current 38 = .ok (.ireturn, 1) := by decide +kernel
theorem dX2_skip_0 : decode cX2_skip 0 = .ok (.aload_n 0, 1) := by decide +kernel
theorem dX2_skip_1 : decode cX2_skip 1 = .ok (.invokevirtual 58, 3) := by decide +kernel
theorem dX2_skip_4 : decode cX2_skip 4 = .ok (.iload_n 1, 1) := by decide +kernel
theorem dX2_skip_5 : decode cX2_skip 5 = .ok (.if_icmp .eq 5, 3) := by decide +kernel
theorem dX2_skip_8 : decode cX2_skip 8 = .ok (.iconst 0, 1) := by decide +kernel
theorem dX2_skip_9 : decode cX2_skip 9 = .ok (.ireturn, 1) := by decide +kernel
theorem dX2_skip_10 : decode cX2_skip 10 = .ok (.aload_n 0, 1) := by decide +kernel
theorem dX2_skip_11 : decode cX2_skip 11 = .ok (.dup, 1) := by decide +kernel
theorem dX2_skip_12 : decode cX2_skip 12 = .ok (.getfield 29, 3) := by decide +kernel
theorem dX2_skip_15 : decode cX2_skip 15 = .ok (.iconst 1, 1) := by decide +kernel
theorem dX2_skip_16 : decode cX2_skip 16 = .ok (.iadd, 1) := by decide +kernel
theorem dX2_skip_17 : decode cX2_skip 17 = .ok (.putfield 29, 3) := by decide +kernel
theorem dX2_skip_20 : decode cX2_skip 20 = .ok (.iconst 1, 1) := by decide +kernel
theorem dX2_skip_21 : decode cX2_skip 21 = .ok (.ireturn, 1) := by decide +kernel
theorem dX3_init_0 : decode cX3_init 0 = .ok (.aload_n 0, 1) := by decide +kernel
theorem dX3_init_1 : decode cX3_init 1 = .ok (.invokespecial 1, 3) := by decide +kernel
theorem dX3_init_4 : decode cX3_init 4 = .ok (.aload_n 0, 1) := by decide +kernel
theorem dX3_init_5 : decode cX3_init 5 = .ok (.new 7, 3) := by decide +kernel
theorem dX3_init_8 : decode cX3_init 8 = .ok (.dup, 1) := by decide +kernel
theorem dX3_init_9 : decode cX3_init 9 = .ok (.invokespecial 9, 3) := by decide +kernel
theorem dX3_init_12 : decode cX3_init 12 = .ok (.putfield 10, 3) := by decide +kernel
theorem dX3_init_15 : decode cX3_init 15 = .ok (.aload_n 0, 1) := by decide +kernel
theorem dX3_init_16 : decode cX3_init 16 = .ok (.new 7, 3) := by decide +kernel
theorem dX3_init_19 : decode cX3_init 19 = .ok (.dup, 1) := by decide +kernel
theorem dX3_init_20 : decode cX3_init 20 = .ok (.invokespecial 9, 3) := by decide +kernel
theorem dX3_init_23 : decode cX3_init 23 = .ok (.putfield 16, 3) := by decide +kernel
theorem dX3_init_26 : decode cX3_init 26 = .ok (.aload_n 0, 1) := by decide +kernel
theorem dX3_init_27 : decode cX3_init 27 = .ok (.new 7, 3) := by decide +kernel
theorem dX3_init_30 : decode cX3_init 30 = .ok (.dup, 1) := by decide +kernel
theorem dX3_init_31 : decode cX3_init 31 = .ok (.invokespecial 9, 3) := by decide +kernel
theorem dX3_init_34 : decode cX3_init 34 = .ok (.putfield 19, 3) := by decide +kernel
theorem dX3_init_37 : decode cX3_init 37 = .ok (.aload_n 0, 1) := by decide +kernel
theorem dX3_init_38 : decode cX3_init 38 = .ok (.iconst 0, 1) := by decide +kernel
theorem dX3_init_39 : decode cX3_init 39 = .ok (.putfield 22, 3) := by decide +kernel
theorem dX3_init_42 : decode cX3_init 42 = .ok (.aload_n 0, 1) := by decide +kernel
theorem dX3_init_43 : decode cX3_init 43 = .ok (.new 26, 3) := by decide +kernel
theorem dX3_init_46 : decode cX3_init 46 = .ok (.dup, 1) := by decide +kernel
theorem dX3_init_47 : decode cX3_init 47 = .ok (.invokespecial 28, 3) := by decide +kernel
theorem dX3_init_50 : decode cX3_init 50 = .ok (.putfield 29, 3) := by decide +kernel
theorem dX3_init_53 : decode cX3_init 53 = .ok (.aload_n 0, 1) := by decide +kernel
theorem dX3_init_54 : decode cX3_init 54 = .ok (.new 33, 3) := by decide +kernel
theorem dX3_init_57 : decode cX3_init 57 = .ok (.dup, 1) := by decide +kernel
theorem dX3_init_58 : decode cX3_init 58 = .ok (.invokespecial 35, 3) := by decide +kernel
theorem dX3_init_61 : decode cX3_init 61 = .ok (.putfield 36, 3) := by decide +kernel
theorem dX3_init_64 : decode cX3_init 64 = .ok (.return_, 1) := by decide +kernel
theorem dX3_come_0 : decode cX3_come 0 = .ok (.aload_n 0, 1) := by decide +kernel
theorem dX3_come_1 : decode cX3_come 1 = .ok (.getfield 10, 3) := by decide +kernel
theorem dX3_come_4 : decode cX3_come 4 = .ok (.iload_n 1, 1) := by decide +kernel
theorem dX3_come_5 : decode cX3_come 5 = .ok (.invokevirtual 40, 3) := by decide +kernel
theorem dX3_come_8 : decode cX3_come 8 = .ok (.ifCond .eq 10, 3) := by decide +kernel
theorem dX3_come_11 : decode cX3_come 11 = .ok (.iload_n 2, 1) := by decide +kernel
theorem dX3_come_12 : decode cX3_come 12 = .ok (.invokestatic 44, 3) := by decide +kernel
theorem dX3_come_15 : decode cX3_come 15 = .ok (.ifCond .ne 6, 3) := by decide +kernel
theorem dX3_come_18 : decode cX3_come 18 = .ok (.bipush (-2), 2) := by decide +kernel
theorem dX3_come_20 : decode cX3_come 20 = .ok (.ireturn, 1) := by decide +kernel
theorem dX3_come_21 : decode cX3_come 21 = .ok (.aload_n 0, 1) := by decide +kernel
theorem dX3_come_22 : decode cX3_come 22 = .ok (.getfield 10, 3) := by decide +kernel
theorem dX3_come_25 : decode cX3_come 25 = .ok (.invokevirtual 47, 3) := by decide +kernel
theorem dX3_come_28 : decode cX3_come 28 = .ok (.istore_n 3, 1) := by decide +kernel
theorem dX3_come_29 : decode cX3_come 29 = .ok (.iload_n 3, 1) := by decide +kernel
theorem dX3_come_30 : decode cX3_come 30 = .ok (.iconst (-1), 1) := by decide +kernel
theorem dX3_come_31 : decode cX3_come 31 = .ok (.if_icmp .ne 6, 3) := by decide +kernel
theorem dX3_come_34 : decode cX3_come 34 = .ok (.bipush (-3), 2) := by decide +kernel
theorem dX3_come_36 : decode cX3_come 36 = .ok (.ireturn, 1) := by decide +kernel
theorem dX3_come_37 : decode cX3_come 37 = .ok (.aload_n 0, 1) := by decide +kernel
theorem dX3_come_38 : decode cX3_come 38 = .ok (.getfield 29, 3) := by decide +kernel
theorem dX3_come_41 : decode cX3_come 41 = .ok (.aload_n 0, 1) := by decide +kernel
theorem dX3_come_42 : decode cX3_come 42 = .ok (.getfield 10, 3) := by decide +kernel
theorem dX3_come_45 : decode cX3_come 45 = .ok (.invokevirtual 51, 3) := by decide +kernel
theorem dX3_come_48 : decode cX3_come 48 = .ok (.aload_n 0, 1) := by decide +kernel
theorem dX3_come_49 : decode cX3_come 49 = .ok (.getfield 10, 3) := by decide +kernel
theorem dX3_come_52 : decode cX3_come 52 = .ok (.iload_n 3, 1) := by decide +kernel
theorem dX3_come_53 : decode cX3_come 53 = .ok (.iload_n 1, 1) := by decide +kernel
theorem dX3_come_54 : decode cX3_come 54 = .ok (.iload_n 2, 1) := by decide +kernel
theorem dX3_come_55 : decode cX3_come 55 = .ok (.invokevirtual 55, 3) := by decide +kernel
theorem dX3_come_58 : decode cX3_come 58 = .ok (.iload_n 3, 1) := by decide +kernel
theorem dX3_come_59 : decode cX3_come 59 = .ok (.ireturn, 1) := by decide +kernel
theorem dX3_goAway_0 : decode cX3_goAway 0 = .ok (.aload_n 0, 1) := by decide +kernel
theorem dX3_goAway_1 : decode cX3_goAway 1 = .ok (.getfield 10, 3) := by decide +kernel
theorem dX3_goAway_4 : decode cX3_goAway 4 = .ok (.iload_n 1, 1) := by decide +kernel
theorem dX3_goAway_5 : decode cX3_goAway 5 = .ok (.invokevirtual 59, 3) := by decide +kernel
theorem dX3_goAway_8 : decode cX3_goAway 8 = .ok (.ifCond .ne 5, 3) := by decide +kernel
theorem dX3_goAway_11 : decode cX3_goAway 11 = .ok (.iconst (-1), 1) := by decide +kernel
theorem dX3_goAway_12 : decode cX3_goAway 12 = .ok (.ireturn, 1) := by decide +kernel
theorem dX3_goAway_13 : decode cX3_goAway 13 = .ok (.aload_n 0, 1) := by decide +kernel
theorem dX3_goAway_14 : decode cX3_goAway 14 = .ok (.getfield 29, 3) := by decide +kernel
theorem dX3_goAway_17 : decode cX3_goAway 17 = .ok (.aload_n 0, 1) := by decide +kernel
theorem dX3_goAway_18 : decode cX3_goAway 18 = .ok (.getfield 10, 3) := by decide +kernel
theorem dX3_goAway_21 : decode cX3_goAway 21 = .ok (.invokevirtual 51, 3) := by decide +kernel
theorem dX3_goAway_24 : decode cX3_goAway 24 = .ok (.aload_n 0, 1) := by decide +kernel
theorem dX3_goAway_25 : decode cX3_goAway 25 = .ok (.getfield 10, 3) := by decide +kernel
theorem dX3_goAway_28 : decode cX3_goAway 28 = .ok (.iload_n 1, 1) := by decide +kernel
theorem dX3_goAway_29 : decode cX3_goAway 29 = .ok (.invokevirtual 62, 3) := by decide +kernel
theorem dX3_goAway_32 : decode cX3_goAway 32 = .ok (.ireturn, 1) := by decide +kernel
theorem dX3_turn_0 : decode cX3_turn 0 = .ok (.aload_n 0, 1) := by decide +kernel
theorem dX3_turn_1 : decode cX3_turn 1 = .ok (.getfield 10, 3) := by decide +kernel
theorem dX3_turn_4 : decode cX3_turn 4 = .ok (.iload_n 1, 1) := by decide +kernel
theorem dX3_turn_5 : decode cX3_turn 5 = .ok (.invokevirtual 59, 3) := by decide +kernel
theorem dX3_turn_8 : decode cX3_turn 8 = .ok (.ifCond .ne 5, 3) := by decide +kernel
theorem dX3_turn_11 : decode cX3_turn 11 = .ok (.iconst (-1), 1) := by decide +kernel
theorem dX3_turn_12 : decode cX3_turn 12 = .ok (.ireturn, 1) := by decide +kernel
theorem dX3_turn_13 : decode cX3_turn 13 = .ok (.aload_n 0, 1) := by decide +kernel
theorem dX3_turn_14 : decode cX3_turn 14 = .ok (.getfield 10, 3) := by decide +kernel
theorem dX3_turn_17 : decode cX3_turn 17 = .ok (.iload_n 1, 1) := by decide +kernel
theorem dX3_turn_18 : decode cX3_turn 18 = .ok (.invokevirtual 66, 3) := by decide +kernel
theorem dX3_turn_21 : decode cX3_turn 21 = .ok (.iload_n 2, 1) := by decide +kernel
theorem dX3_turn_22 : decode cX3_turn 22 = .ok (.if_icmp .ne 6, 3) := by decide +kernel
theorem dX3_turn_25 : decode cX3_turn 25 = .ok (.bipush (-5), 2) := by decide +kernel
theorem dX3_turn_27 : decode cX3_turn 27 = .ok (.ireturn, 1) := by decide +kernel
theorem dX3_turn_28 : decode cX3_turn 28 = .ok (.aload_n 0, 1) := by decide +kernel
theorem dX3_turn_29 : decode cX3_turn 29 = .ok (.getfield 29, 3) := by decide +kernel
theorem dX3_turn_32 : decode cX3_turn 32 = .ok (.aload_n 0, 1) := by decide +kernel
theorem dX3_turn_33 : decode cX3_turn 33 = .ok (.getfield 10, 3) := by decide +kernel
theorem dX3_turn_36 : decode cX3_turn 36 = .ok (.invokevirtual 51, 3) := by decide +kernel
theorem dX3_turn_39 : decode cX3_turn 39 = .ok (.aload_n 0, 1) := by decide +kernel
theorem dX3_turn_40 : decode cX3_turn 40 = .ok (.getfield 10, 3) := by decide +kernel
theorem dX3_turn_43 : decode cX3_turn 43 = .ok (.iload_n 1, 1) := by decide +kernel
theorem dX3_turn_44 : decode cX3_turn 44 = .ok (.iload_n 2, 1) := by decide +kernel
theorem dX3_turn_45 : decode cX3_turn 45 = .ok (.invokevirtual 69, 3) := by decide +kernel
theorem dX3_turn_48 : decode cX3_turn 48 = .ok (.aload_n 0, 1) := by decide +kernel
theorem dX3_turn_49 : decode cX3_turn 49 = .ok (.getfield 10, 3) := by decide +kernel
theorem dX3_turn_52 : decode cX3_turn 52 = .ok (.invokevirtual 73, 3) := by decide +kernel
theorem dX3_turn_55 : decode cX3_turn 55 = .ok (.ireturn, 1) := by decide +kernel
theorem dX3_link_0 : decode cX3_link 0 = .ok (.aload_n 0, 1) := by decide +kernel
theorem dX3_link_1 : decode cX3_link 1 = .ok (.getfield 10, 3) := by decide +kernel
theorem dX3_link_4 : decode cX3_link 4 = .ok (.iload_n 1, 1) := by decide +kernel
theorem dX3_link_5 : decode cX3_link 5 = .ok (.invokevirtual 59, 3) := by decide +kernel
theorem dX3_link_8 : decode cX3_link 8 = .ok (.ifCond .eq 14, 3) := by decide +kernel
theorem dX3_link_11 : decode cX3_link 11 = .ok (.aload_n 0, 1) := by decide +kernel
theorem dX3_link_12 : decode cX3_link 12 = .ok (.getfield 10, 3) := by decide +kernel
theorem dX3_link_15 : decode cX3_link 15 = .ok (.iload_n 2, 1) := by decide +kernel
theorem dX3_link_16 : decode cX3_link 16 = .ok (.invokevirtual 59, 3) := by decide +kernel
theorem dX3_link_19 : decode cX3_link 19 = .ok (.ifCond .ne 5, 3) := by decide +kernel
theorem dX3_link_22 : decode cX3_link 22 = .ok (.iconst (-1), 1) := by decide +kernel
theorem dX3_link_23 : decode cX3_link 23 = .ok (.ireturn, 1) := by decide +kernel
theorem dX3_link_24 : decode cX3_link 24 = .ok (.iload_n 1, 1) := by decide +kernel
theorem dX3_link_25 : decode cX3_link 25 = .ok (.iload_n 2, 1) := by decide +kernel
theorem dX3_link_26 : decode cX3_link 26 = .ok (.if_icmp .ne 6, 3) := by decide +kernel
theorem dX3_link_29 : decode cX3_link 29 = .ok (.bipush (-2), 2) := by decide +kernel
theorem dX3_link_31 : decode cX3_link 31 = .ok (.ireturn, 1) := by decide +kernel
theorem dX3_link_32 : decode cX3_link 32 = .ok (.aload_n 0, 1) := by decide +kernel
theorem dX3_link_33 : decode cX3_link 33 = .ok (.getfield 10, 3) := by decide +kernel
theorem dX3_link_36 : decode cX3_link 36 = .ok (.iload_n 1, 1) := by decide +kernel
theorem dX3_link_37 : decode cX3_link 37 = .ok (.iload_n 2, 1) := by decide +kernel
theorem dX3_link_38 : decode cX3_link 38 = .ok (.invokevirtual 76, 3) := by decide +kernel
theorem dX3_link_41 : decode cX3_link 41 = .ok (.iload_n 3, 1) := by decide +kernel
theorem dX3_link_42 : decode cX3_link 42 = .ok (.if_icmp .ne 6, 3) := by decide +kernel
theorem dX3_link_45 : decode cX3_link 45 = .ok (.bipush (-5), 2) := by decide +kernel
theorem dX3_link_47 : decode cX3_link 47 = .ok (.ireturn, 1) := by decide +kernel
theorem dX3_link_48 : decode cX3_link 48 = .ok (.aload_n 0, 1) := by decide +kernel
theorem dX3_link_49 : decode cX3_link 49 = .ok (.getfield 29, 3) := by decide +kernel
theorem dX3_link_52 : decode cX3_link 52 = .ok (.aload_n 0, 1) := by decide +kernel
theorem dX3_link_53 : decode cX3_link 53 = .ok (.getfield 10, 3) := by decide +kernel
theorem dX3_link_56 : decode cX3_link 56 = .ok (.invokevirtual 51, 3) := by decide +kernel
theorem dX3_link_59 : decode cX3_link 59 = .ok (.aload_n 0, 1) := by decide +kernel
theorem dX3_link_60 : decode cX3_link 60 = .ok (.getfield 10, 3) := by decide +kernel
theorem dX3_link_63 : decode cX3_link 63 = .ok (.iload_n 1, 1) := by decide +kernel
theorem dX3_link_64 : decode cX3_link 64 = .ok (.iload_n 2, 1) := by decide +kernel
theorem dX3_link_65 : decode cX3_link 65 = .ok (.iload_n 3, 1) := by decide +kernel
theorem dX3_link_66 : decode cX3_link 66 = .ok (.invokevirtual 80, 3) := by decide +kernel
theorem dX3_link_69 : decode cX3_link 69 = .ok (.aload_n 0, 1) := by decide +kernel
theorem dX3_link_70 : decode cX3_link 70 = .ok (.getfield 10, 3) := by decide +kernel
theorem dX3_link_73 : decode cX3_link 73 = .ok (.invokevirtual 84, 3) := by decide +kernel
theorem dX3_link_76 : decode cX3_link 76 = .ok (.ireturn, 1) := by decide +kernel
theorem dX3_tune_0 : decode cX3_tune 0 = .ok (.aload_n 0, 1) := by decide +kernel
theorem dX3_tune_1 : decode cX3_tune 1 = .ok (.getfield 10, 3) := by decide +kernel
theorem dX3_tune_4 : decode cX3_tune 4 = .ok (.iload_n 1, 1) := by decide +kernel
theorem dX3_tune_5 : decode cX3_tune 5 = .ok (.invokevirtual 59, 3) := by decide +kernel
theorem dX3_tune_8 : decode cX3_tune 8 = .ok (.ifCond .ne 5, 3) := by decide +kernel
theorem dX3_tune_11 : decode cX3_tune 11 = .ok (.iconst (-1), 1) := by decide +kernel
theorem dX3_tune_12 : decode cX3_tune 12 = .ok (.ireturn, 1) := by decide +kernel
theorem dX3_tune_13 : decode cX3_tune 13 = .ok (.aload_n 0, 1) := by decide +kernel
theorem dX3_tune_14 : decode cX3_tune 14 = .ok (.getfield 10, 3) := by decide +kernel
theorem dX3_tune_17 : decode cX3_tune 17 = .ok (.iload_n 2, 1) := by decide +kernel
theorem dX3_tune_18 : decode cX3_tune 18 = .ok (.invokevirtual 40, 3) := by decide +kernel
theorem dX3_tune_21 : decode cX3_tune 21 = .ok (.ifCond .eq 10, 3) := by decide +kernel
theorem dX3_tune_24 : decode cX3_tune 24 = .ok (.iload_n 3, 1) := by decide +kernel
theorem dX3_tune_25 : decode cX3_tune 25 = .ok (.invokestatic 44, 3) := by decide +kernel
theorem dX3_tune_28 : decode cX3_tune 28 = .ok (.ifCond .ne 6, 3) := by decide +kernel
theorem dX3_tune_31 : decode cX3_tune 31 = .ok (.bipush (-2), 2) := by decide +kernel
theorem dX3_tune_33 : decode cX3_tune 33 = .ok (.ireturn, 1) := by decide +kernel
theorem dX3_tune_34 : decode cX3_tune 34 = .ok (.aload_n 0, 1) := by decide +kernel
theorem dX3_tune_35 : decode cX3_tune 35 = .ok (.getfield 29, 3) := by decide +kernel
theorem dX3_tune_38 : decode cX3_tune 38 = .ok (.aload_n 0, 1) := by decide +kernel
theorem dX3_tune_39 : decode cX3_tune 39 = .ok (.getfield 10, 3) := by decide +kernel
theorem dX3_tune_42 : decode cX3_tune 42 = .ok (.invokevirtual 51, 3) := by decide +kernel
theorem dX3_tune_45 : decode cX3_tune 45 = .ok (.aload_n 0, 1) := by decide +kernel
theorem dX3_tune_46 : decode cX3_tune 46 = .ok (.getfield 10, 3) := by decide +kernel
theorem dX3_tune_49 : decode cX3_tune 49 = .ok (.iload_n 1, 1) := by decide +kernel
theorem dX3_tune_50 : decode cX3_tune 50 = .ok (.iload_n 2, 1) := by decide +kernel
theorem dX3_tune_51 : decode cX3_tune 51 = .ok (.iload_n 3, 1) := by decide +kernel
theorem dX3_tune_52 : decode cX3_tune 52 = .ok (.invokevirtual 87, 3) := by decide +kernel
theorem dX3_tune_55 : decode cX3_tune 55 = .ok (.ireturn, 1) := by decide +kernel
theorem dX3_set_0 : decode cX3_set 0 = .ok (.iload_n 1, 1) := by decide +kernel
theorem dX3_set_1 : decode cX3_set 1 = .ok (.ifCond .lt 8, 3) := by decide +kernel
theorem dX3_set_4 : decode cX3_set 4 = .ok (.iload_n 1, 1) := by decide +kernel
theorem dX3_set_5 : decode cX3_set 5 = .ok (.iconst 3, 1) := by decide +kernel
theorem dX3_set_6 : decode cX3_set 6 = .ok (.if_icmp .lt 5, 3) := by decide +kernel
theorem dX3_set_9 : decode cX3_set 9 = .ok (.iconst (-1), 1) := by decide +kernel
theorem dX3_set_10 : decode cX3_set 10 = .ok (.ireturn, 1) := by decide +kernel
theorem dX3_set_11 : decode cX3_set 11 = .ok (.iload_n 2, 1) := by decide +kernel
theorem dX3_set_12 : decode cX3_set 12 = .ok (.getstatic 91, 3) := by decide +kernel
theorem dX3_set_15 : decode cX3_set 15 = .ok (.iload_n 1, 1) := by decide +kernel
theorem dX3_set_16 : decode cX3_set 16 = .ok (.iaload, 1) := by decide +kernel
theorem dX3_set_17 : decode cX3_set 17 = .ok (.if_icmp .lt 12, 3) := by decide +kernel
theorem dX3_set_20 : decode cX3_set 20 = .ok (.iload_n 2, 1) := by decide +kernel
theorem dX3_set_21 : decode cX3_set 21 = .ok (.getstatic 95, 3) := by decide +kernel
theorem dX3_set_24 : decode cX3_set 24 = .ok (.iload_n 1, 1) := by decide +kernel
theorem dX3_set_25 : decode cX3_set 25 = .ok (.iaload, 1) := by decide +kernel
theorem dX3_set_26 : decode cX3_set 26 = .ok (.if_icmp .le 6, 3) := by decide +kernel
theorem dX3_set_29 : decode cX3_set 29 = .ok (.bipush (-2), 2) := by decide +kernel
theorem dX3_set_31 : decode cX3_set 31 = .ok (.ireturn, 1) := by decide +kernel
theorem dX3_set_32 : decode cX3_set 32 = .ok (.aload_n 0, 1) := by decide +kernel
theorem dX3_set_33 : decode cX3_set 33 = .ok (.getfield 10, 3) := by decide +kernel
theorem dX3_set_36 : decode cX3_set 36 = .ok (.iload_n 1, 1) := by decide +kernel
theorem dX3_set_37 : decode cX3_set 37 = .ok (.invokevirtual 98, 3) := by decide +kernel
theorem dX3_set_40 : decode cX3_set 40 = .ok (.iload_n 2, 1) := by decide +kernel
theorem dX3_set_41 : decode cX3_set 41 = .ok (.if_icmp .ne 6, 3) := by decide +kernel
theorem dX3_set_44 : decode cX3_set 44 = .ok (.bipush (-5), 2) := by decide +kernel
theorem dX3_set_46 : decode cX3_set 46 = .ok (.ireturn, 1) := by decide +kernel
theorem dX3_set_47 : decode cX3_set 47 = .ok (.aload_n 0, 1) := by decide +kernel
theorem dX3_set_48 : decode cX3_set 48 = .ok (.getfield 29, 3) := by decide +kernel
theorem dX3_set_51 : decode cX3_set 51 = .ok (.aload_n 0, 1) := by decide +kernel
theorem dX3_set_52 : decode cX3_set 52 = .ok (.getfield 10, 3) := by decide +kernel
theorem dX3_set_55 : decode cX3_set 55 = .ok (.invokevirtual 51, 3) := by decide +kernel
theorem dX3_set_58 : decode cX3_set 58 = .ok (.aload_n 0, 1) := by decide +kernel
theorem dX3_set_59 : decode cX3_set 59 = .ok (.getfield 10, 3) := by decide +kernel
theorem dX3_set_62 : decode cX3_set 62 = .ok (.iload_n 1, 1) := by decide +kernel
theorem dX3_set_63 : decode cX3_set 63 = .ok (.iload_n 2, 1) := by decide +kernel
theorem dX3_set_64 : decode cX3_set 64 = .ok (.invokevirtual 101, 3) := by decide +kernel
theorem dX3_set_67 : decode cX3_set 67 = .ok (.ireturn, 1) := by decide +kernel
theorem dX3_pass_0 : decode cX3_pass 0 = .ok (.iload_n 1, 1) := by decide +kernel
theorem dX3_pass_1 : decode cX3_pass 1 = .ok (.iconst 1, 1) := by decide +kernel
theorem dX3_pass_2 : decode cX3_pass 2 = .ok (.if_icmp .lt 10, 3) := by decide +kernel
theorem dX3_pass_5 : decode cX3_pass 5 = .ok (.iload_n 1, 1) := by decide +kernel
theorem dX3_pass_6 : decode cX3_pass 6 = .ok (.sipush 999, 3) := by decide +kernel
theorem dX3_pass_9 : decode cX3_pass 9 = .ok (.if_icmp .le 6, 3) := by decide +kernel
theorem dX3_pass_12 : decode cX3_pass 12 = .ok (.bipush (-2), 2) := by decide +kernel
theorem dX3_pass_14 : decode cX3_pass 14 = .ok (.ireturn, 1) := by decide +kernel
theorem dX3_pass_15 : decode cX3_pass 15 = .ok (.aload_n 0, 1) := by decide +kernel
theorem dX3_pass_16 : decode cX3_pass 16 = .ok (.getfield 10, 3) := by decide +kernel
theorem dX3_pass_19 : decode cX3_pass 19 = .ok (.invokevirtual 105, 3) := by decide +kernel
theorem dX3_pass_22 : decode cX3_pass 22 = .ok (.iload_n 1, 1) := by decide +kernel
theorem dX3_pass_23 : decode cX3_pass 23 = .ok (.iadd, 1) := by decide +kernel
theorem dX3_pass_24 : decode cX3_pass 24 = .ok (.ldc 108, 2) := by decide +kernel
theorem dX3_pass_26 : decode cX3_pass 26 = .ok (.if_icmp .le 6, 3) := by decide +kernel
theorem dX3_pass_29 : decode cX3_pass 29 = .ok (.bipush (-3), 2) := by decide +kernel
theorem dX3_pass_31 : decode cX3_pass 31 = .ok (.ireturn, 1) := by decide +kernel
theorem dX3_pass_32 : decode cX3_pass 32 = .ok (.aload_n 0, 1) := by decide +kernel
theorem dX3_pass_33 : decode cX3_pass 33 = .ok (.getfield 29, 3) := by decide +kernel
theorem dX3_pass_36 : decode cX3_pass 36 = .ok (.aload_n 0, 1) := by decide +kernel
theorem dX3_pass_37 : decode cX3_pass 37 = .ok (.getfield 10, 3) := by decide +kernel
theorem dX3_pass_40 : decode cX3_pass 40 = .ok (.invokevirtual 51, 3) := by decide +kernel
theorem dX3_pass_43 : decode cX3_pass 43 = .ok (.aload_n 0, 1) := by decide +kernel
theorem dX3_pass_44 : decode cX3_pass 44 = .ok (.getfield 10, 3) := by decide +kernel
theorem dX3_pass_47 : decode cX3_pass 47 = .ok (.invokevirtual 109, 3) := by decide +kernel
theorem dX3_pass_50 : decode cX3_pass 50 = .ok (.istore_n 2, 1) := by decide +kernel
theorem dX3_pass_51 : decode cX3_pass 51 = .ok (.aload_n 0, 1) := by decide +kernel
theorem dX3_pass_52 : decode cX3_pass 52 = .ok (.getfield 10, 3) := by decide +kernel
theorem dX3_pass_55 : decode cX3_pass 55 = .ok (.iload_n 1, 1) := by decide +kernel
theorem dX3_pass_56 : decode cX3_pass 56 = .ok (.invokevirtual 112, 3) := by decide +kernel
theorem dX3_pass_59 : decode cX3_pass 59 = .ok (.aload_n 0, 1) := by decide +kernel
theorem dX3_pass_60 : decode cX3_pass 60 = .ok (.getfield 10, 3) := by decide +kernel
theorem dX3_pass_63 : decode cX3_pass 63 = .ok (.invokevirtual 109, 3) := by decide +kernel
theorem dX3_pass_66 : decode cX3_pass 66 = .ok (.iload_n 2, 1) := by decide +kernel
theorem dX3_pass_67 : decode cX3_pass 67 = .ok (.isub, 1) := by decide +kernel
theorem dX3_pass_68 : decode cX3_pass 68 = .ok (.ireturn, 1) := by decide +kernel
theorem dX3_type_0 : decode cX3_type 0 = .ok (.aload_n 0, 1) := by decide +kernel
theorem dX3_type_1 : decode cX3_type 1 = .ok (.getfield 36, 3) := by decide +kernel
theorem dX3_type_4 : decode cX3_type 4 = .ok (.invokevirtual 116, 3) := by decide +kernel
theorem dX3_type_7 : decode cX3_type 7 = .ok (.ifCond .eq 6, 3) := by decide +kernel
theorem dX3_type_10 : decode cX3_type 10 = .ok (.bipush (-3), 2) := by decide +kernel
theorem dX3_type_12 : decode cX3_type 12 = .ok (.ireturn, 1) := by decide +kernel
theorem dX3_type_13 : decode cX3_type 13 = .ok (.aload_n 0, 1) := by decide +kernel
theorem dX3_type_14 : decode cX3_type 14 = .ok (.getfield 36, 3) := by decide +kernel
theorem dX3_type_17 : decode cX3_type 17 = .ok (.iload_n 1, 1) := by decide +kernel
theorem dX3_type_18 : decode cX3_type 18 = .ok (.invokevirtual 120, 3) := by decide +kernel
theorem dX3_type_21 : decode cX3_type 21 = .ok (.aload_n 0, 1) := by decide +kernel
theorem dX3_type_22 : decode cX3_type 22 = .ok (.getfield 36, 3) := by decide +kernel
theorem dX3_type_25 : decode cX3_type 25 = .ok (.invokevirtual 124, 3) := by decide +kernel
theorem dX3_type_28 : decode cX3_type 28 = .ok (.ireturn, 1) := by decide +kernel
theorem dX3_clearText_0 : decode cX3_clearText 0 = .ok (.aload_n 0, 1) := by decide +kernel
theorem dX3_clearText_1 : decode cX3_clearText 1 = .ok (.getfield 36, 3) := by decide +kernel
theorem dX3_clearText_4 : decode cX3_clearText 4 = .ok (.invokevirtual 124, 3) := by decide +kernel
theorem dX3_clearText_7 : decode cX3_clearText 7 = .ok (.istore_n 1, 1) := by decide +kernel
theorem dX3_clearText_8 : decode cX3_clearText 8 = .ok (.aload_n 0, 1) := by decide +kernel
theorem dX3_clearText_9 : decode cX3_clearText 9 = .ok (.getfield 36, 3) := by decide +kernel
theorem dX3_clearText_12 : decode cX3_clearText 12 = .ok (.invokevirtual 127, 3) := by decide +kernel
theorem dX3_clearText_15 : decode cX3_clearText 15 = .ok (.iload_n 1, 1) := by decide +kernel
theorem dX3_clearText_16 : decode cX3_clearText 16 = .ok (.ireturn, 1) := by decide +kernel
theorem dX3_readMesh_0 : decode cX3_readMesh 0 = .ok (.aload_n 0, 1) := by decide +kernel
theorem dX3_readMesh_1 : decode cX3_readMesh 1 = .ok (.getfield 36, 3) := by decide +kernel
theorem dX3_readMesh_4 : decode cX3_readMesh 4 = .ok (.invokevirtual 130, 3) := by decide +kernel
theorem dX3_readMesh_7 : decode cX3_readMesh 7 = .ok (.ifCond .ne 14, 3) := by decide +kernel
theorem dX3_readMesh_10 : decode cX3_readMesh 10 = .ok (.bipush (-100), 2) := by decide +kernel
theorem dX3_readMesh_12 : decode cX3_readMesh 12 = .ok (.aload_n 0, 1) := by decide +kernel
theorem dX3_readMesh_13 : decode cX3_readMesh 13 = .ok (.getfield 36, 3) := by decide +kernel
theorem dX3_readMesh_16 : decode cX3_readMesh 16 = .ok (.invokevirtual 133, 3) := by decide +kernel
theorem dX3_readMesh_19 : decode cX3_readMesh 19 = .ok (.isub, 1) := by decide +kernel
theorem dX3_readMesh_20 : decode cX3_readMesh 20 = .ok (.ireturn, 1) := by decide +kernel
theorem dX3_readMesh_21 : decode cX3_readMesh 21 = .ok (.aload_n 0, 1) := by decide +kernel
theorem dX3_readMesh_22 : decode cX3_readMesh 22 = .ok (.getfield 29, 3) := by decide +kernel
theorem dX3_readMesh_25 : decode cX3_readMesh 25 = .ok (.aload_n 0, 1) := by decide +kernel
theorem dX3_readMesh_26 : decode cX3_readMesh 26 = .ok (.getfield 10, 3) := by decide +kernel
theorem dX3_readMesh_29 : decode cX3_readMesh 29 = .ok (.invokevirtual 51, 3) := by decide +kernel
theorem dX3_readMesh_32 : decode cX3_readMesh 32 = .ok (.aload_n 0, 1) := by decide +kernel
theorem dX3_readMesh_33 : decode cX3_readMesh 33 = .ok (.getfield 36, 3) := by decide +kernel
theorem dX3_readMesh_36 : decode cX3_readMesh 36 = .ok (.aload_n 0, 1) := by decide +kernel
theorem dX3_readMesh_37 : decode cX3_readMesh 37 = .ok (.getfield 10, 3) := by decide +kernel
theorem dX3_readMesh_40 : decode cX3_readMesh 40 = .ok (.invokevirtual 136, 3) := by decide +kernel
theorem dX3_readMesh_43 : decode cX3_readMesh 43 = .ok (.aload_n 0, 1) := by decide +kernel
theorem dX3_readMesh_44 : decode cX3_readMesh 44 = .ok (.getfield 10, 3) := by decide +kernel
theorem dX3_readMesh_47 : decode cX3_readMesh 47 = .ok (.invokevirtual 139, 3) := by decide +kernel
theorem dX3_readMesh_50 : decode cX3_readMesh 50 = .ok (.ireturn, 1) := by decide +kernel
theorem dX3_undo_0 : decode cX3_undo 0 = .ok (.aload_n 0, 1) := by decide +kernel
theorem dX3_undo_1 : decode cX3_undo 1 = .ok (.getfield 29, 3) := by decide +kernel
theorem dX3_undo_4 : decode cX3_undo 4 = .ok (.invokevirtual 142, 3) := by decide +kernel
theorem dX3_undo_7 : decode cX3_undo 7 = .ok (.ifCond .ne 6, 3) := by decide +kernel
theorem dX3_undo_10 : decode cX3_undo 10 = .ok (.bipush (-5), 2) := by decide +kernel
theorem dX3_undo_12 : decode cX3_undo 12 = .ok (.ireturn, 1) := by decide +kernel
theorem dX3_undo_13 : decode cX3_undo 13 = .ok (.aload_n 0, 1) := by decide +kernel
theorem dX3_undo_14 : decode cX3_undo 14 = .ok (.getfield 29, 3) := by decide +kernel
theorem dX3_undo_17 : decode cX3_undo 17 = .ok (.aload_n 0, 1) := by decide +kernel
theorem dX3_undo_18 : decode cX3_undo 18 = .ok (.getfield 10, 3) := by decide +kernel
theorem dX3_undo_21 : decode cX3_undo 21 = .ok (.invokevirtual 145, 3) := by decide +kernel
theorem dX3_undo_24 : decode cX3_undo 24 = .ok (.aload_n 0, 1) := by decide +kernel
theorem dX3_undo_25 : decode cX3_undo 25 = .ok (.getfield 29, 3) := by decide +kernel
theorem dX3_undo_28 : decode cX3_undo 28 = .ok (.invokevirtual 142, 3) := by decide +kernel
theorem dX3_undo_31 : decode cX3_undo 31 = .ok (.ireturn, 1) := by decide +kernel
theorem dX3_keep_0 : decode cX3_keep 0 = .ok (.aload_n 0, 1) := by decide +kernel
theorem dX3_keep_1 : decode cX3_keep 1 = .ok (.getfield 19, 3) := by decide +kernel
theorem dX3_keep_4 : decode cX3_keep 4 = .ok (.aload_n 0, 1) := by decide +kernel
theorem dX3_keep_5 : decode cX3_keep 5 = .ok (.getfield 10, 3) := by decide +kernel
theorem dX3_keep_8 : decode cX3_keep 8 = .ok (.invokevirtual 148, 3) := by decide +kernel
theorem dX3_keep_11 : decode cX3_keep 11 = .ok (.aload_n 0, 1) := by decide +kernel
theorem dX3_keep_12 : decode cX3_keep 12 = .ok (.iconst 1, 1) := by decide +kernel
theorem dX3_keep_13 : decode cX3_keep 13 = .ok (.putfield 22, 3) := by decide +kernel
theorem dX3_keep_16 : decode cX3_keep 16 = .ok (.aload_n 0, 1) := by decide +kernel
theorem dX3_keep_17 : decode cX3_keep 17 = .ok (.getfield 10, 3) := by decide +kernel
theorem dX3_keep_20 : decode cX3_keep 20 = .ok (.invokevirtual 139, 3) := by decide +kernel
theorem dX3_keep_23 : decode cX3_keep 23 = .ok (.ireturn, 1) := by decide +kernel
theorem dX3_restore_0 : decode cX3_restore 0 = .ok (.aload_n 0, 1) := by decide +kernel
theorem dX3_restore_1 : decode cX3_restore 1 = .ok (.getfield 22, 3) := by decide +kernel
theorem dX3_restore_4 : decode cX3_restore 4 = .ok (.ifCond .ne 6, 3) := by decide +kernel
theorem dX3_restore_7 : decode cX3_restore 7 = .ok (.bipush (-5), 2) := by decide +kernel
theorem dX3_restore_9 : decode cX3_restore 9 = .ok (.ireturn, 1) := by decide +kernel
theorem dX3_restore_10 : decode cX3_restore 10 = .ok (.aload_n 0, 1) := by decide +kernel
theorem dX3_restore_11 : decode cX3_restore 11 = .ok (.getfield 29, 3) := by decide +kernel
theorem dX3_restore_14 : decode cX3_restore 14 = .ok (.aload_n 0, 1) := by decide +kernel
theorem dX3_restore_15 : decode cX3_restore 15 = .ok (.getfield 10, 3) := by decide +kernel
theorem dX3_restore_18 : decode cX3_restore 18 = .ok (.invokevirtual 51, 3) := by decide +kernel
theorem dX3_restore_21 : decode cX3_restore 21 = .ok (.aload_n 0, 1) := by decide +kernel
theorem dX3_restore_22 : decode cX3_restore 22 = .ok (.getfield 10, 3) := by decide +kernel
theorem dX3_restore_25 : decode cX3_restore 25 = .ok (.aload_n 0, 1) := by decide +kernel
theorem dX3_restore_26 : decode cX3_restore 26 = .ok (.getfield 19, 3) := by decide +kernel
theorem dX3_restore_29 : decode cX3_restore 29 = .ok (.invokevirtual 148, 3) := by decide +kernel
theorem dX3_restore_32 : decode cX3_restore 32 = .ok (.aload_n 0, 1) := by decide +kernel
theorem dX3_restore_33 : decode cX3_restore 33 = .ok (.getfield 10, 3) := by decide +kernel
theorem dX3_restore_36 : decode cX3_restore 36 = .ok (.invokevirtual 139, 3) := by decide +kernel
theorem dX3_restore_39 : decode cX3_restore 39 = .ok (.ireturn, 1) := by decide +kernel
theorem dX3_lamp_0 : decode cX3_lamp 0 = .ok (.aload_n 0, 1) := by decide +kernel
theorem dX3_lamp_1 : decode cX3_lamp 1 = .ok (.getfield 10, 3) := by decide +kernel
theorem dX3_lamp_4 : decode cX3_lamp 4 = .ok (.iload_n 1, 1) := by decide +kernel
theorem dX3_lamp_5 : decode cX3_lamp 5 = .ok (.invokevirtual 59, 3) := by decide +kernel
theorem dX3_lamp_8 : decode cX3_lamp 8 = .ok (.ifCond .ne 5, 3) := by decide +kernel
theorem dX3_lamp_11 : decode cX3_lamp 11 = .ok (.iconst (-1), 1) := by decide +kernel
theorem dX3_lamp_12 : decode cX3_lamp 12 = .ok (.ireturn, 1) := by decide +kernel
theorem dX3_lamp_13 : decode cX3_lamp 13 = .ok (.aload_n 0, 1) := by decide +kernel
theorem dX3_lamp_14 : decode cX3_lamp 14 = .ok (.getfield 10, 3) := by decide +kernel
theorem dX3_lamp_17 : decode cX3_lamp 17 = .ok (.iload_n 1, 1) := by decide +kernel
theorem dX3_lamp_18 : decode cX3_lamp 18 = .ok (.iload_n 2, 1) := by decide +kernel
theorem dX3_lamp_19 : decode cX3_lamp 19 = .ok (.invokevirtual 151, 3) := by decide +kernel
theorem dX3_lamp_22 : decode cX3_lamp 22 = .ok (.ireturn, 1) := by decide +kernel
theorem dX3_apart_0 : decode cX3_apart 0 = .ok (.aload_n 0, 1) := by decide +kernel
theorem dX3_apart_1 : decode cX3_apart 1 = .ok (.getfield 10, 3) := by decide +kernel
theorem dX3_apart_4 : decode cX3_apart 4 = .ok (.iload_n 1, 1) := by decide +kernel
theorem dX3_apart_5 : decode cX3_apart 5 = .ok (.invokevirtual 59, 3) := by decide +kernel
theorem dX3_apart_8 : decode cX3_apart 8 = .ok (.ifCond .eq 14, 3) := by decide +kernel
theorem dX3_apart_11 : decode cX3_apart 11 = .ok (.aload_n 0, 1) := by decide +kernel
theorem dX3_apart_12 : decode cX3_apart 12 = .ok (.getfield 10, 3) := by decide +kernel
theorem dX3_apart_15 : decode cX3_apart 15 = .ok (.iload_n 2, 1) := by decide +kernel
theorem dX3_apart_16 : decode cX3_apart 16 = .ok (.invokevirtual 59, 3) := by decide +kernel
theorem dX3_apart_19 : decode cX3_apart 19 = .ok (.ifCond .ne 5, 3) := by decide +kernel
theorem dX3_apart_22 : decode cX3_apart 22 = .ok (.iconst (-1), 1) := by decide +kernel
theorem dX3_apart_23 : decode cX3_apart 23 = .ok (.ireturn, 1) := by decide +kernel
theorem dX3_apart_24 : decode cX3_apart 24 = .ok (.aload_n 0, 1) := by decide +kernel
theorem dX3_apart_25 : decode cX3_apart 25 = .ok (.getfield 10, 3) := by decide +kernel
theorem dX3_apart_28 : decode cX3_apart 28 = .ok (.iload_n 1, 1) := by decide +kernel
theorem dX3_apart_29 : decode cX3_apart 29 = .ok (.iload_n 2, 1) := by decide +kernel
theorem dX3_apart_30 : decode cX3_apart 30 = .ok (.invokevirtual 154, 3) := by decide +kernel
theorem dX3_apart_33 : decode cX3_apart 33 = .ok (.ireturn, 1) := by decide +kernel
theorem dX3_next_0 : decode cX3_next 0 = .ok (.iload_n 1, 1) := by decide +kernel
theorem dX3_next_1 : decode cX3_next 1 = .ok (.ifCond .lt 8, 3) := by decide +kernel
theorem dX3_next_4 : decode cX3_next 4 = .ok (.iload_n 1, 1) := by decide +kernel
theorem dX3_next_5 : decode cX3_next 5 = .ok (.iconst 1, 1) := by decide +kernel
theorem dX3_next_6 : decode cX3_next 6 = .ok (.if_icmp .le 6, 3) := by decide +kernel
theorem dX3_next_9 : decode cX3_next 9 = .ok (.bipush (-2), 2) := by decide +kernel
theorem dX3_next_11 : decode cX3_next 11 = .ok (.ireturn, 1) := by decide +kernel
theorem dX3_next_12 : decode cX3_next 12 = .ok (.aload_n 0, 1) := by decide +kernel
theorem dX3_next_13 : decode cX3_next 13 = .ok (.getfield 10, 3) := by decide +kernel
theorem dX3_next_16 : decode cX3_next 16 = .ok (.invokevirtual 73, 3) := by decide +kernel
theorem dX3_next_19 : decode cX3_next 19 = .ok (.ifCond .ne 6, 3) := by decide +kernel
theorem dX3_next_22 : decode cX3_next 22 = .ok (.bipush (-5), 2) := by decide +kernel
theorem dX3_next_24 : decode cX3_next 24 = .ok (.ireturn, 1) := by decide +kernel
theorem dX3_next_25 : decode cX3_next 25 = .ok (.aload_n 0, 1) := by decide +kernel
theorem dX3_next_26 : decode cX3_next 26 = .ok (.getfield 16, 3) := by decide +kernel
theorem dX3_next_29 : decode cX3_next 29 = .ok (.aload_n 0, 1) := by decide +kernel
theorem dX3_next_30 : decode cX3_next 30 = .ok (.getfield 10, 3) := by decide +kernel
theorem dX3_next_33 : decode cX3_next 33 = .ok (.invokevirtual 148, 3) := by decide +kernel
theorem dX3_next_36 : decode cX3_next 36 = .ok (.iconst 1, 1) := by decide +kernel
theorem dX3_next_37 : decode cX3_next 37 = .ok (.istore_n 2, 1) := by decide +kernel
theorem dX3_next_38 : decode cX3_next 38 = .ok (.iload_n 2, 1) := by decide +kernel
theorem dX3_next_39 : decode cX3_next 39 = .ok (.sipush 400, 3) := by decide +kernel
theorem dX3_next_42 : decode cX3_next 42 = .ok (.if_icmp .gt 31, 3) := by decide +kernel
theorem dX3_next_45 : decode cX3_next 45 = .ok (.aload_n 0, 1) := by decide +kernel
theorem dX3_next_46 : decode cX3_next 46 = .ok (.getfield 16, 3) := by decide +kernel
theorem dX3_next_49 : decode cX3_next 49 = .ok (.invokevirtual 157, 3) := by decide +kernel
theorem dX3_next_52 : decode cX3_next 52 = .ok (.istore_n 3, 1) := by decide +kernel
theorem dX3_next_53 : decode cX3_next 53 = .ok (.iload_n 3, 1) := by decide +kernel
theorem dX3_next_54 : decode cX3_next 54 = .ok (.ifCond .eq 13, 3) := by decide +kernel
theorem dX3_next_57 : decode cX3_next 57 = .ok (.iload_n 1, 1) := by decide +kernel
theorem dX3_next_58 : decode cX3_next 58 = .ok (.ifCond .ne 7, 3) := by decide +kernel
theorem dX3_next_61 : decode cX3_next 61 = .ok (.iload_n 2, 1) := by decide +kernel
theorem dX3_next_62 : decode cX3_next 62 = .ok (.goto 4, 3) := by decide +kernel
theorem dX3_next_65 : decode cX3_next 65 = .ok (.iload_n 3, 1) := by decide +kernel
theorem dX3_next_66 : decode cX3_next 66 = .ok (.ireturn, 1) := by decide +kernel
theorem dX3_next_67 : decode cX3_next 67 = .ok (.iinc 2 1, 3) := by decide +kernel
theorem dX3_next_70 : decode cX3_next 70 = .ok (.goto (-32), 3) := by decide +kernel
theorem dX3_next_73 : decode cX3_next 73 = .ok (.bipush (-5), 2) := by decide +kernel
theorem dX3_next_75 : decode cX3_next 75 = .ok (.ireturn, 1) := by decide +kernel
theorem dX3_togetherIn_0 : decode cX3_togetherIn 0 = .ok (.aload_n 0, 1) := by decide +kernel
theorem dX3_togetherIn_1 : decode cX3_togetherIn 1 = .ok (.getfield 16, 3) := by decide +kernel
theorem dX3_togetherIn_4 : decode cX3_togetherIn 4 = .ok (.aload_n 0, 1) := by decide +kernel
theorem dX3_togetherIn_5 : decode cX3_togetherIn 5 = .ok (.getfield 10, 3) := by decide +kernel
theorem dX3_togetherIn_8 : decode cX3_togetherIn 8 = .ok (.invokevirtual 148, 3) := by decide +kernel
theorem dX3_togetherIn_11 : decode cX3_togetherIn 11 = .ok (.aload_n 0, 1) := by decide +kernel
theorem dX3_togetherIn_12 : decode cX3_togetherIn 12 = .ok (.invokevirtual 160, 3) := by decide +kernel
theorem dX3_togetherIn_15 : decode cX3_togetherIn 15 = .ok (.ireturn, 1) := by decide +kernel
theorem dX3_reason_0 : decode cX3_reason 0 = .ok (.aload_n 0, 1) := by decide +kernel
theorem dX3_reason_1 : decode cX3_reason 1 = .ok (.getfield 10, 3) := by decide +kernel
theorem dX3_reason_4 : decode cX3_reason 4 = .ok (.invokevirtual 163, 3) := by decide +kernel
theorem dX3_reason_7 : decode cX3_reason 7 = .ok (.ifCond .eq 5, 3) := by decide +kernel
theorem dX3_reason_10 : decode cX3_reason 10 = .ok (.iconst 0, 1) := by decide +kernel
theorem dX3_reason_11 : decode cX3_reason 11 = .ok (.ireturn, 1) := by decide +kernel
theorem dX3_reason_12 : decode cX3_reason 12 = .ok (.aload_n 0, 1) := by decide +kernel
theorem dX3_reason_13 : decode cX3_reason 13 = .ok (.getfield 10, 3) := by decide +kernel
theorem dX3_reason_16 : decode cX3_reason 16 = .ok (.invokevirtual 73, 3) := by decide +kernel
theorem dX3_reason_19 : decode cX3_reason 19 = .ok (.ifCond .ne 5, 3) := by decide +kernel
theorem dX3_reason_22 : decode cX3_reason 22 = .ok (.iconst 1, 1) := by decide +kernel
theorem dX3_reason_23 : decode cX3_reason 23 = .ok (.ireturn, 1) := by decide +kernel
theorem dX3_reason_24 : decode cX3_reason 24 = .ok (.aload_n 0, 1) := by decide +kernel
theorem dX3_reason_25 : decode cX3_reason 25 = .ok (.getfield 10, 3) := by decide +kernel
theorem dX3_reason_28 : decode cX3_reason 28 = .ok (.invokevirtual 166, 3) := by decide +kernel
theorem dX3_reason_31 : decode cX3_reason 31 = .ok (.iconst 1, 1) := by decide +kernel
theorem dX3_reason_32 : decode cX3_reason 32 = .ok (.if_icmp .le 5, 3) := by decide +kernel
theorem dX3_reason_35 : decode cX3_reason 35 = .ok (.iconst 2, 1) := by decide +kernel
theorem dX3_reason_36 : decode cX3_reason 36 = .ok (.ireturn, 1) := by decide +kernel
theorem dX3_reason_37 : decode cX3_reason 37 = .ok (.aload_n 0, 1) := by decide +kernel
theorem dX3_reason_38 : decode cX3_reason 38 = .ok (.getfield 10, 3) := by decide +kernel
theorem dX3_reason_41 : decode cX3_reason 41 = .ok (.invokevirtual 169, 3) := by decide +kernel
theorem dX3_reason_44 : decode cX3_reason 44 = .ok (.ifCond .eq 5, 3) := by decide +kernel
theorem dX3_reason_47 : decode cX3_reason 47 = .ok (.iconst 3, 1) := by decide +kernel
theorem dX3_reason_48 : decode cX3_reason 48 = .ok (.ireturn, 1) := by decide +kernel
theorem dX3_reason_49 : decode cX3_reason 49 = .ok (.aload_n 0, 1) := by decide +kernel
theorem dX3_reason_50 : decode cX3_reason 50 = .ok (.getfield 10, 3) := by decide +kernel
theorem dX3_reason_53 : decode cX3_reason 53 = .ok (.iconst 1, 1) := by decide +kernel
theorem dX3_reason_54 : decode cX3_reason 54 = .ok (.invokevirtual 98, 3) := by decide +kernel
theorem dX3_reason_57 : decode cX3_reason 57 = .ok (.ifCond .ne 7, 3) := by decide +kernel
theorem dX3_reason_60 : decode cX3_reason 60 = .ok (.iconst 4, 1) := by decide +kernel
theorem dX3_reason_61 : decode cX3_reason 61 = .ok (.goto 4, 3) := by decide +kernel
theorem dX3_reason_64 : decode cX3_reason 64 = .ok (.iconst 0, 1) := by decide +kernel
theorem dX3_reason_65 : decode cX3_reason 65 = .ok (.ireturn, 1) := by decide +kernel
theorem dX3_spread_0 : decode cX3_spread 0 = .ok (.aload_n 0, 1) := by decide +kernel
theorem dX3_spread_1 : decode cX3_spread 1 = .ok (.getfield 10, 3) := by decide +kernel
theorem dX3_spread_4 : decode cX3_spread 4 = .ok (.invokevirtual 73, 3) := by decide +kernel
theorem dX3_spread_7 : decode cX3_spread 7 = .ok (.ifCond .ne 6, 3) := by decide +kernel
theorem dX3_spread_10 : decode cX3_spread 10 = .ok (.bipush (-5), 2) := by decide +kernel
theorem dX3_spread_12 : decode cX3_spread 12 = .ok (.ireturn, 1) := by decide +kernel
theorem dX3_spread_13 : decode cX3_spread 13 = .ok (.aload_n 0, 1) := by decide +kernel
theorem dX3_spread_14 : decode cX3_spread 14 = .ok (.getfield 10, 3) := by decide +kernel
theorem dX3_spread_17 : decode cX3_spread 17 = .ok (.invokevirtual 172, 3) := by decide +kernel
theorem dX3_spread_20 : decode cX3_spread 20 = .ok (.ireturn, 1) := by decide +kernel
theorem dX3_ifLinked_0 : decode cX3_ifLinked 0 = .ok (.aload_n 0, 1) := by decide +kernel
theorem dX3_ifLinked_1 : decode cX3_ifLinked 1 = .ok (.getfield 10, 3) := by decide +kernel
theorem dX3_ifLinked_4 : decode cX3_ifLinked 4 = .ok (.iload_n 1, 1) := by decide +kernel
theorem dX3_ifLinked_5 : decode cX3_ifLinked 5 = .ok (.invokevirtual 59, 3) := by decide +kernel
theorem dX3_ifLinked_8 : decode cX3_ifLinked 8 = .ok (.ifCond .eq 14, 3) := by decide +kernel
theorem dX3_ifLinked_11 : decode cX3_ifLinked 11 = .ok (.aload_n 0, 1) := by decide +kernel
theorem dX3_ifLinked_12 : decode cX3_ifLinked 12 = .ok (.getfield 10, 3) := by decide +kernel
theorem dX3_ifLinked_15 : decode cX3_ifLinked 15 = .ok (.iload_n 2, 1) := by decide +kernel
theorem dX3_ifLinked_16 : decode cX3_ifLinked 16 = .ok (.invokevirtual 59, 3) := by decide +kernel
theorem dX3_ifLinked_19 : decode cX3_ifLinked 19 = .ok (.ifCond .ne 5, 3) := by decide +kernel
theorem dX3_ifLinked_22 : decode cX3_ifLinked 22 = .ok (.iconst (-1), 1) := by decide +kernel
theorem dX3_ifLinked_23 : decode cX3_ifLinked 23 = .ok (.ireturn, 1) := by decide +kernel
theorem dX3_ifLinked_24 : decode cX3_ifLinked 24 = .ok (.iload_n 1, 1) := by decide +kernel
theorem dX3_ifLinked_25 : decode cX3_ifLinked 25 = .ok (.iload_n 2, 1) := by decide +kernel
theorem dX3_ifLinked_26 : decode cX3_ifLinked 26 = .ok (.if_icmp .ne 6, 3) := by decide +kernel
theorem dX3_ifLinked_29 : decode cX3_ifLinked 29 = .ok (.bipush (-2), 2) := by decide +kernel
theorem dX3_ifLinked_31 : decode cX3_ifLinked 31 = .ok (.ireturn, 1) := by decide +kernel
theorem dX3_ifLinked_32 : decode cX3_ifLinked 32 = .ok (.aload_n 0, 1) := by decide +kernel
theorem dX3_ifLinked_33 : decode cX3_ifLinked 33 = .ok (.getfield 16, 3) := by decide +kernel
theorem dX3_ifLinked_36 : decode cX3_ifLinked 36 = .ok (.aload_n 0, 1) := by decide +kernel
theorem dX3_ifLinked_37 : decode cX3_ifLinked 37 = .ok (.getfield 10, 3) := by decide +kernel
theorem dX3_ifLinked_40 : decode cX3_ifLinked 40 = .ok (.invokevirtual 148, 3) := by decide +kernel
theorem dX3_ifLinked_43 : decode cX3_ifLinked 43 = .ok (.aload_n 0, 1) := by decide +kernel
theorem dX3_ifLinked_44 : decode cX3_ifLinked 44 = .ok (.getfield 16, 3) := by decide +kernel
theorem dX3_ifLinked_47 : decode cX3_ifLinked 47 = .ok (.iload_n 1, 1) := by decide +kernel
theorem dX3_ifLinked_48 : decode cX3_ifLinked 48 = .ok (.iload_n 2, 1) := by decide +kernel
theorem dX3_ifLinked_49 : decode cX3_ifLinked 49 = .ok (.aload_n 0, 1) := by decide +kernel
theorem dX3_ifLinked_50 : decode cX3_ifLinked 50 = .ok (.getfield 10, 3) := by decide +kernel
theorem dX3_ifLinked_53 : decode cX3_ifLinked 53 = .ok (.iload_n 1, 1) := by decide +kernel
theorem dX3_ifLinked_54 : decode cX3_ifLinked 54 = .ok (.iload_n 2, 1) := by decide +kernel
theorem dX3_ifLinked_55 : decode cX3_ifLinked 55 = .ok (.invokevirtual 76, 3) := by decide +kernel
theorem dX3_ifLinked_58 : decode cX3_ifLinked 58 = .ok (.ifCond .ne 7, 3) := by decide +kernel
theorem dX3_ifLinked_61 : decode cX3_ifLinked 61 = .ok (.iconst 1, 1) := by decide +kernel
theorem dX3_ifLinked_62 : decode cX3_ifLinked 62 = .ok (.goto 4, 3) := by decide +kernel
theorem dX3_ifLinked_65 : decode cX3_ifLinked 65 = .ok (.iconst 0, 1) := by decide +kernel
theorem dX3_ifLinked_66 : decode cX3_ifLinked 66 = .ok (.invokevirtual 80, 3) := by decide +kernel
theorem dX3_ifLinked_69 : decode cX3_ifLinked 69 = .ok (.aload_n 0, 1) := by decide +kernel
theorem dX3_ifLinked_70 : decode cX3_ifLinked 70 = .ok (.invokevirtual 160, 3) := by decide +kernel
theorem dX3_ifLinked_73 : decode cX3_ifLinked 73 = .ok (.ireturn, 1) := by decide +kernel
theorem dX3_hub_0 : decode cX3_hub 0 = .ok (.aload_n 0, 1) := by decide +kernel
theorem dX3_hub_1 : decode cX3_hub 1 = .ok (.getfield 10, 3) := by decide +kernel
theorem dX3_hub_4 : decode cX3_hub 4 = .ok (.invokevirtual 175, 3) := by decide +kernel
theorem dX3_hub_7 : decode cX3_hub 7 = .ok (.istore_n 1, 1) := by decide +kernel
theorem dX3_hub_8 : decode cX3_hub 8 = .ok (.iload_n 1, 1) := by decide +kernel
theorem dX3_hub_9 : decode cX3_hub 9 = .ok (.iconst (-1), 1) := by decide +kernel
theorem dX3_hub_10 : decode cX3_hub 10 = .ok (.if_icmp .ne 8, 3) := by decide +kernel
theorem dX3_hub_13 : decode cX3_hub 13 = .ok (.bipush (-5), 2) := by decide +kernel
theorem dX3_hub_15 : decode cX3_hub 15 = .ok (.goto 4, 3) := by decide +kernel
theorem dX3_hub_18 : decode cX3_hub 18 = .ok (.iload_n 1, 1) := by decide +kernel
theorem dX3_hub_19 : decode cX3_hub 19 = .ok (.ireturn, 1) := by decide +kernel
theorem dX3_bestLink_0 : decode cX3_bestLink 0 = .ok (.iload_n 1, 1) := by decide +kernel
theorem dX3_bestLink_1 : decode cX3_bestLink 1 = .ok (.ifCond .lt 8, 3) := by decide +kernel
theorem dX3_bestLink_4 : decode cX3_bestLink 4 = .ok (.iload_n 1, 1) := by decide +kernel
theorem dX3_bestLink_5 : decode cX3_bestLink 5 = .ok (.iconst 2, 1) := by decide +kernel
theorem dX3_bestLink_6 : decode cX3_bestLink 6 = .ok (.if_icmp .le 6, 3) := by decide +kernel
theorem dX3_bestLink_9 : decode cX3_bestLink 9 = .ok (.bipush (-2), 2) := by decide +kernel
theorem dX3_bestLink_11 : decode cX3_bestLink 11 = .ok (.ireturn, 1) := by decide +kernel
theorem dX3_bestLink_12 : decode cX3_bestLink 12 = .ok (.bipush (-5), 2) := by decide +kernel
theorem dX3_bestLink_14 : decode cX3_bestLink 14 = .ok (.istore_n 2, 1) := by decide +kernel
theorem dX3_bestLink_15 : decode cX3_bestLink 15 = .ok (.bipush (-5), 2) := by decide +kernel
theorem dX3_bestLink_17 : decode cX3_bestLink 17 = .ok (.istore_n 3, 1) := by decide +kernel
theorem dX3_bestLink_18 : decode cX3_bestLink 18 = .ok (.bipush (-5), 2) := by decide +kernel
theorem dX3_bestLink_20 : decode cX3_bestLink 20 = .ok (.istore 4, 2) := by decide +kernel
theorem dX3_bestLink_22 : decode cX3_bestLink 22 = .ok (.iconst 0, 1) := by decide +kernel
theorem dX3_bestLink_23 : decode cX3_bestLink 23 = .ok (.istore 5, 2) := by decide +kernel
theorem dX3_bestLink_25 : decode cX3_bestLink 25 = .ok (.iload 5, 2) := by decide +kernel
theorem dX3_bestLink_27 : decode cX3_bestLink 27 = .ok (.bipush 16, 2) := by decide +kernel
theorem dX3_bestLink_29 : decode cX3_bestLink 29 = .ok (.if_icmp .ge 76, 3) := by decide +kernel
theorem dX3_bestLink_32 : decode cX3_bestLink 32 = .ok (.iload 5, 2) := by decide +kernel
theorem dX3_bestLink_34 : decode cX3_bestLink 34 = .ok (.iconst 1, 1) := by decide +kernel
theorem dX3_bestLink_35 : decode cX3_bestLink 35 = .ok (.iadd, 1) := by decide +kernel
theorem dX3_bestLink_36 : decode cX3_bestLink 36 = .ok (.istore 6, 2) := by decide +kernel
theorem dX3_bestLink_38 : decode cX3_bestLink 38 = .ok (.iload 6, 2) := by decide +kernel
theorem dX3_bestLink_40 : decode cX3_bestLink 40 = .ok (.bipush 16, 2) := by decide +kernel
theorem dX3_bestLink_42 : decode cX3_bestLink 42 = .ok (.if_icmp .ge 57, 3) := by decide +kernel
theorem dX3_bestLink_45 : decode cX3_bestLink 45 = .ok (.aload_n 0, 1) := by decide +kernel
theorem dX3_bestLink_46 : decode cX3_bestLink 46 = .ok (.getfield 10, 3) := by decide +kernel
theorem dX3_bestLink_49 : decode cX3_bestLink 49 = .ok (.iload 5, 2) := by decide +kernel
theorem dX3_bestLink_51 : decode cX3_bestLink 51 = .ok (.iload 6, 2) := by decide +kernel
theorem dX3_bestLink_53 : decode cX3_bestLink 53 = .ok (.invokevirtual 178, 3) := by decide +kernel
theorem dX3_bestLink_56 : decode cX3_bestLink 56 = .ok (.ifCond .eq 37, 3) := by decide +kernel
theorem dX3_bestLink_59 : decode cX3_bestLink 59 = .ok (.aload_n 0, 1) := by decide +kernel
theorem dX3_bestLink_60 : decode cX3_bestLink 60 = .ok (.iload 5, 2) := by decide +kernel
theorem dX3_bestLink_62 : decode cX3_bestLink 62 = .ok (.iload 6, 2) := by decide +kernel
theorem dX3_bestLink_64 : decode cX3_bestLink 64 = .ok (.invokevirtual 181, 3) := by decide +kernel
theorem dX3_bestLink_67 : decode cX3_bestLink 67 = .ok (.istore 7, 2) := by decide +kernel
theorem dX3_bestLink_69 : decode cX3_bestLink 69 = .ok (.iload 4, 2) := by decide +kernel
theorem dX3_bestLink_71 : decode cX3_bestLink 71 = .ok (.bipush (-5), 2) := by decide +kernel
theorem dX3_bestLink_73 : decode cX3_bestLink 73 = .ok (.if_icmp .eq 10, 3) := by decide +kernel
theorem dX3_bestLink_76 : decode cX3_bestLink 76 = .ok (.iload 7, 2) := by decide +kernel
theorem dX3_bestLink_78 : decode cX3_bestLink 78 = .ok (.iload 4, 2) := by decide +kernel
theorem dX3_bestLink_80 : decode cX3_bestLink 80 = .ok (.if_icmp .ge 13, 3) := by decide +kernel
theorem dX3_bestLink_83 : decode cX3_bestLink 83 = .ok (.iload 5, 2) := by decide +kernel
theorem dX3_bestLink_85 : decode cX3_bestLink 85 = .ok (.istore_n 2, 1) := by decide +kernel
theorem dX3_bestLink_86 : decode cX3_bestLink 86 = .ok (.iload 6, 2) := by decide +kernel
theorem dX3_bestLink_88 : decode cX3_bestLink 88 = .ok (.istore_n 3, 1) := by decide +kernel
theorem dX3_bestLink_89 : decode cX3_bestLink 89 = .ok (.iload 7, 2) := by decide +kernel
theorem dX3_bestLink_91 : decode cX3_bestLink 91 = .ok (.istore 4, 2) := by decide +kernel
theorem dX3_bestLink_93 : decode cX3_bestLink 93 = .ok (.iinc 6 1, 3) := by decide +kernel
theorem dX3_bestLink_96 : decode cX3_bestLink 96 = .ok (.goto (-58), 3) := by decide +kernel
theorem dX3_bestLink_99 : decode cX3_bestLink 99 = .ok (.iinc 5 1, 3) := by decide +kernel
theorem dX3_bestLink_102 : decode cX3_bestLink 102 = .ok (.goto (-77), 3) := by decide +kernel
theorem dX3_bestLink_105 : decode cX3_bestLink 105 = .ok (.iload_n 1, 1) := by decide +kernel
theorem dX3_bestLink_106 : decode cX3_bestLink 106 = .ok (.ifCond .ne 5, 3) := by decide +kernel
theorem dX3_bestLink_109 : decode cX3_bestLink 109 = .ok (.iload_n 2, 1) := by decide +kernel
theorem dX3_bestLink_110 : decode cX3_bestLink 110 = .ok (.ireturn, 1) := by decide +kernel
theorem dX3_bestLink_111 : decode cX3_bestLink 111 = .ok (.iload_n 1, 1) := by decide +kernel
theorem dX3_bestLink_112 : decode cX3_bestLink 112 = .ok (.iconst 1, 1) := by decide +kernel
theorem dX3_bestLink_113 : decode cX3_bestLink 113 = .ok (.if_icmp .ne 7, 3) := by decide +kernel
theorem dX3_bestLink_116 : decode cX3_bestLink 116 = .ok (.iload_n 3, 1) := by decide +kernel
theorem dX3_bestLink_117 : decode cX3_bestLink 117 = .ok (.goto 5, 3) := by decide +kernel
theorem dX3_bestLink_120 : decode cX3_bestLink 120 = .ok (.iload 4, 2) := by decide +kernel
theorem dX3_bestLink_122 : decode cX3_bestLink 122 = .ok (.ireturn, 1) := by decide +kernel
theorem dX3_count_0 : decode cX3_count 0 = .ok (.iload_n 1, 1) := by decide +kernel
theorem dX3_count_1 : decode cX3_count 1 = .ok (.bipush 12, 2) := by decide +kernel
theorem dX3_count_3 : decode cX3_count 3 = .ok (.if_icmp .ne 11, 3) := by decide +kernel
theorem dX3_count_6 : decode cX3_count 6 = .ok (.aload_n 0, 1) := by decide +kernel
theorem dX3_count_7 : decode cX3_count 7 = .ok (.getfield 29, 3) := by decide +kernel
theorem dX3_count_10 : decode cX3_count 10 = .ok (.invokevirtual 142, 3) := by decide +kernel
theorem dX3_count_13 : decode cX3_count 13 = .ok (.ireturn, 1) := by decide +kernel
theorem dX3_count_14 : decode cX3_count 14 = .ok (.iload_n 1, 1) := by decide +kernel
theorem dX3_count_15 : decode cX3_count 15 = .ok (.bipush 13, 2) := by decide +kernel
theorem dX3_count_17 : decode cX3_count 17 = .ok (.if_icmp .ne 11, 3) := by decide +kernel
theorem dX3_count_20 : decode cX3_count 20 = .ok (.aload_n 0, 1) := by decide +kernel
theorem dX3_count_21 : decode cX3_count 21 = .ok (.getfield 36, 3) := by decide +kernel
theorem dX3_count_24 : decode cX3_count 24 = .ok (.invokevirtual 124, 3) := by decide +kernel
theorem dX3_count_27 : decode cX3_count 27 = .ok (.ireturn, 1) := by decide +kernel
theorem dX3_count_28 : decode cX3_count 28 = .ok (.aload_n 0, 1) := by decide +kernel
theorem dX3_count_29 : decode cX3_count 29 = .ok (.getfield 10, 3) := by decide +kernel
theorem dX3_count_32 : decode cX3_count 32 = .ok (.iload_n 1, 1) := by decide +kernel
theorem dX3_count_33 : decode cX3_count 33 = .ok (.invokevirtual 184, 3) := by decide +kernel
theorem dX3_count_36 : decode cX3_count 36 = .ok (.ireturn, 1) := by decide +kernel
theorem dX3_isRate_0 : decode cX3_isRate 0 = .ok (.iload_n 0, 1) := by decide +kernel
theorem dX3_isRate_1 : decode cX3_isRate 1 = .ok (.bipush 50, 2) := by decide +kernel
theorem dX3_isRate_3 : decode cX3_isRate 3 = .ok (.if_icmp .lt 14, 3) := by decide +kernel
theorem dX3_isRate_6 : decode cX3_isRate 6 = .ok (.iload_n 0, 1) := by decide +kernel
theorem dX3_isRate_7 : decode cX3_isRate 7 = .ok (.sipush 150, 3) := by decide +kernel
theorem dX3_isRate_10 : decode cX3_isRate 10 = .ok (.if_icmp .gt 7, 3) := by decide +kernel
theorem dX3_isRate_13 : decode cX3_isRate 13 = .ok (.iconst 1, 1) := by decide +kernel
theorem dX3_isRate_14 : decode cX3_isRate 14 = .ok (.goto 4, 3) := by decide +kernel
theorem dX3_isRate_17 : decode cX3_isRate 17 = .ok (.iconst 0, 1) := by decide +kernel
theorem dX3_isRate_18 : decode cX3_isRate 18 = .ok (.ireturn, 1) := by decide +kernel
theorem dX3_holds_0 : decode cX3_holds 0 = .ok (.iload_n 0, 1) := by decide +kernel
theorem dX3_holds_1 : decode cX3_holds 1 = .ok (.iload_n 1, 1) := by decide +kernel
theorem dX3_holds_2 : decode cX3_holds 2 = .ok (.ishr, 1) := by decide +kernel
theorem dX3_holds_3 : decode cX3_holds 3 = .ok (.iconst 1, 1) := by decide +kernel
theorem dX3_holds_4 : decode cX3_holds 4 = .ok (.iand, 1) := by decide +kernel
theorem dX3_holds_5 : decode cX3_holds 5 = .ok (.ifCond .eq 7, 3) := by decide +kernel
theorem dX3_holds_8 : decode cX3_holds 8 = .ok (.iconst 1, 1) := by decide +kernel
theorem dX3_holds_9 : decode cX3_holds 9 = .ok (.goto 4, 3) := by decide +kernel
theorem dX3_holds_12 : decode cX3_holds 12 = .ok (.iconst 0, 1) := by decide +kernel
theorem dX3_holds_13 : decode cX3_holds 13 = .ok (.ireturn, 1) := by decide +kernel
theorem dX3_trialTogetherIn_0 : decode cX3_trialTogetherIn 0 = .ok (.aload_n 0, 1) := by decide +kernel
theorem dX3_trialTogetherIn_1 : decode cX3_trialTogetherIn 1 = .ok (.getfield 16, 3) := by decide +kernel
theorem dX3_trialTogetherIn_4 : decode cX3_trialTogetherIn 4 = .ok (.invokevirtual 73, 3) := by decide +kernel
theorem dX3_trialTogetherIn_7 : decode cX3_trialTogetherIn 7 = .ok (.ifCond .ne 6, 3) := by decide +kernel
theorem dX3_trialTogetherIn_10 : decode cX3_trialTogetherIn 10 = .ok (.bipush (-5), 2) := by decide +kernel
theorem dX3_trialTogetherIn_12 : decode cX3_trialTogetherIn 12 = .ok (.ireturn, 1) := by decide +kernel
theorem dX3_trialTogetherIn_13 : decode cX3_trialTogetherIn 13 = .ok (.iconst 0, 1) := by decide +kernel
theorem dX3_trialTogetherIn_14 : decode cX3_trialTogetherIn 14 = .ok (.istore_n 1, 1) := by decide +kernel
end
section
theorem dX3_trialTogetherIn_15 : decode cX3_trialTogetherIn 15 = .ok (.iload_n 1, 1) := by decide +kernel
theorem dX3_trialTogetherIn_16 : decode cX3_trialTogetherIn 16 = .ok (.sipush 2000, 3) := by decide +kernel
theorem dX3_trialTogetherIn_19 : decode cX3_trialTogetherIn 19 = .ok (.if_icmp .ge 29, 3) := by decide +kernel
theorem dX3_trialTogetherIn_22 : decode cX3_trialTogetherIn 22 = .ok (.aload_n 0, 1) := by decide +kernel
theorem dX3_trialTogetherIn_23 : decode cX3_trialTogetherIn 23 = .ok (.getfield 16, 3) := by decide +kernel
theorem dX3_trialTogetherIn_26 : decode cX3_trialTogetherIn 26 = .ok (.invokevirtual 163, 3) := by decide +kernel
theorem dX3_trialTogetherIn_29 : decode cX3_trialTogetherIn 29 = .ok (.ifCond .eq 5, 3) := by decide +kernel
theorem dX3_trialTogetherIn_32 : decode cX3_trialTogetherIn 32 = .ok (.iload_n 1, 1) := by decide +kernel
theorem dX3_trialTogetherIn_33 : decode cX3_trialTogetherIn 33 = .ok (.ireturn, 1) := by decide +kernel
theorem dX3_trialTogetherIn_34 : decode cX3_trialTogetherIn 34 = .ok (.aload_n 0, 1) := by decide +kernel
theorem dX3_trialTogetherIn_35 : decode cX3_trialTogetherIn 35 = .ok (.getfield 16, 3) := by decide +kernel
theorem dX3_trialTogetherIn_38 : decode cX3_trialTogetherIn 38 = .ok (.invokevirtual 157, 3) := by decide +kernel
theorem dX3_trialTogetherIn_41 : decode cX3_trialTogetherIn 41 = .ok (.pop, 1) := by decide +kernel
theorem dX3_trialTogetherIn_42 : decode cX3_trialTogetherIn 42 = .ok (.iinc 1 1, 3) := by decide +kernel
theorem dX3_trialTogetherIn_45 : decode cX3_trialTogetherIn 45 = .ok (.goto (-30), 3) := by decide +kernel
theorem dX3_trialTogetherIn_48 : decode cX3_trialTogetherIn 48 = .ok (.aload_n 0, 1) := by decide +kernel
theorem dX3_trialTogetherIn_49 : decode cX3_trialTogetherIn 49 = .ok (.getfield 16, 3) := by decide +kernel
theorem dX3_trialTogetherIn_52 : decode cX3_trialTogetherIn 52 = .ok (.invokevirtual 163, 3) := by decide +kernel
theorem dX3_trialTogetherIn_55 : decode cX3_trialTogetherIn 55 = .ok (.ifCond .eq 9, 3) := by decide +kernel
theorem dX3_trialTogetherIn_58 : decode cX3_trialTogetherIn 58 = .ok (.sipush 2000, 3) := by decide +kernel
theorem dX3_trialTogetherIn_61 : decode cX3_trialTogetherIn 61 = .ok (.goto 5, 3) := by decide +kernel
theorem dX3_trialTogetherIn_64 : decode cX3_trialTogetherIn 64 = .ok (.bipush (-5), 2) := by decide +kernel
theorem dX3_trialTogetherIn_66 : decode cX3_trialTogetherIn 66 = .ok (.ireturn, 1) := by decide +kernel
theorem dX3_spreadWith_0 : decode cX3_spreadWith 0 = .ok (.aload_n 0, 1) := by decide +kernel
theorem dX3_spreadWith_1 : decode cX3_spreadWith 1 = .ok (.getfield 16, 3) := by decide +kernel
theorem dX3_spreadWith_4 : decode cX3_spreadWith 4 = .ok (.aload_n 0, 1) := by decide +kernel
theorem dX3_spreadWith_5 : decode cX3_spreadWith 5 = .ok (.getfield 10, 3) := by decide +kernel
theorem dX3_spreadWith_8 : decode cX3_spreadWith 8 = .ok (.invokevirtual 148, 3) := by decide +kernel
theorem dX3_spreadWith_11 : decode cX3_spreadWith 11 = .ok (.aload_n 0, 1) := by decide +kernel
theorem dX3_spreadWith_12 : decode cX3_spreadWith 12 = .ok (.getfield 16, 3) := by decide +kernel
theorem dX3_spreadWith_15 : decode cX3_spreadWith 15 = .ok (.iload_n 1, 1) := by decide +kernel
theorem dX3_spreadWith_16 : decode cX3_spreadWith 16 = .ok (.iload_n 2, 1) := by decide +kernel
theorem dX3_spreadWith_17 : decode cX3_spreadWith 17 = .ok (.iconst 1, 1) := by decide +kernel
theorem dX3_spreadWith_18 : decode cX3_spreadWith 18 = .ok (.invokevirtual 80, 3) := by decide +kernel
theorem dX3_spreadWith_21 : decode cX3_spreadWith 21 = .ok (.aload_n 0, 1) := by decide +kernel
theorem dX3_spreadWith_22 : decode cX3_spreadWith 22 = .ok (.getfield 16, 3) := by decide +kernel
theorem dX3_spreadWith_25 : decode cX3_spreadWith 25 = .ok (.bipush 100, 2) := by decide +kernel
theorem dX3_spreadWith_27 : decode cX3_spreadWith 27 = .ok (.invokevirtual 112, 3) := by decide +kernel
theorem dX3_spreadWith_30 : decode cX3_spreadWith 30 = .ok (.aload_n 0, 1) := by decide +kernel
theorem dX3_spreadWith_31 : decode cX3_spreadWith 31 = .ok (.getfield 16, 3) := by decide +kernel
theorem dX3_spreadWith_34 : decode cX3_spreadWith 34 = .ok (.invokevirtual 172, 3) := by decide +kernel
theorem dX3_spreadWith_37 : decode cX3_spreadWith 37 = .ok (.ireturn, 1) := by decide +kernel
theorem dX4_init_0 : decode cX4_init 0 = .ok (.aload_n 0, 1) := by decide +kernel
theorem dX4_init_1 : decode cX4_init 1 = .ok (.invokespecial 1, 3) := by decide +kernel
theorem dX4_init_4 : decode cX4_init 4 = .ok (.aload_n 0, 1) := by decide +kernel
theorem dX4_init_5 : decode cX4_init 5 = .ok (.sipush 152, 3) := by decide +kernel
theorem dX4_init_8 : decode cX4_init 8 = .ok (.newarray .int, 2) := by decide +kernel
theorem dX4_init_10 : decode cX4_init 10 = .ok (.putfield 7, 3) := by decide +kernel
theorem dX4_init_13 : decode cX4_init 13 = .ok (.aload_n 0, 1) := by decide +kernel
theorem dX4_init_14 : decode cX4_init 14 = .ok (.sipush 608, 3) := by decide +kernel
theorem dX4_init_17 : decode cX4_init 17 = .ok (.newarray .int, 2) := by decide +kernel
theorem dX4_init_19 : decode cX4_init 19 = .ok (.putfield 13, 3) := by decide +kernel
theorem dX4_init_22 : decode cX4_init 22 = .ok (.aload_n 0, 1) := by decide +kernel
theorem dX4_init_23 : decode cX4_init 23 = .ok (.sipush 152, 3) := by decide +kernel
theorem dX4_init_26 : decode cX4_init 26 = .ok (.newarray .int, 2) := by decide +kernel
theorem dX4_init_28 : decode cX4_init 28 = .ok (.putfield 16, 3) := by decide +kernel
theorem dX4_init_31 : decode cX4_init 31 = .ok (.aload_n 0, 1) := by decide +kernel
theorem dX4_init_32 : decode cX4_init 32 = .ok (.sipush 152, 3) := by decide +kernel
theorem dX4_init_35 : decode cX4_init 35 = .ok (.newarray .int, 2) := by decide +kernel
theorem dX4_init_37 : decode cX4_init 37 = .ok (.putfield 19, 3) := by decide +kernel
theorem dX4_init_40 : decode cX4_init 40 = .ok (.aload_n 0, 1) := by decide +kernel
theorem dX4_init_41 : decode cX4_init 41 = .ok (.bipush 60, 2) := by decide +kernel
theorem dX4_init_43 : decode cX4_init 43 = .ok (.newarray .char, 2) := by decide +kernel
theorem dX4_init_45 : decode cX4_init 45 = .ok (.putfield 22, 3) := by decide +kernel
theorem dX4_init_48 : decode cX4_init 48 = .ok (.aload_n 0, 1) := by decide +kernel
theorem dX4_init_49 : decode cX4_init 49 = .ok (.bipush 16, 2) := by decide +kernel
theorem dX4_init_51 : decode cX4_init 51 = .ok (.newarray .int, 2) := by decide +kernel
theorem dX4_init_53 : decode cX4_init 53 = .ok (.putfield 26, 3) := by decide +kernel
theorem dX4_init_56 : decode cX4_init 56 = .ok (.aload_n 0, 1) := by decide +kernel
theorem dX4_init_57 : decode cX4_init 57 = .ok (.bipush 16, 2) := by decide +kernel
theorem dX4_init_59 : decode cX4_init 59 = .ok (.newarray .int, 2) := by decide +kernel
theorem dX4_init_61 : decode cX4_init 61 = .ok (.putfield 29, 3) := by decide +kernel
theorem dX4_init_64 : decode cX4_init 64 = .ok (.aload_n 0, 1) := by decide +kernel
theorem dX4_init_65 : decode cX4_init 65 = .ok (.bipush 16, 2) := by decide +kernel
theorem dX4_init_67 : decode cX4_init 67 = .ok (.newarray .int, 2) := by decide +kernel
theorem dX4_init_69 : decode cX4_init 69 = .ok (.putfield 32, 3) := by decide +kernel
theorem dX4_init_72 : decode cX4_init 72 = .ok (.aload_n 0, 1) := by decide +kernel
theorem dX4_init_73 : decode cX4_init 73 = .ok (.getfield 7, 3) := by decide +kernel
theorem dX4_init_76 : decode cX4_init 76 = .ok (.iconst 5, 1) := by decide +kernel
theorem dX4_init_77 : decode cX4_init 77 = .ok (.bipush 100, 2) := by decide +kernel
theorem dX4_init_79 : decode cX4_init 79 = .ok (.iastore, 1) := by decide +kernel
theorem dX4_init_80 : decode cX4_init 80 = .ok (.aload_n 0, 1) := by decide +kernel
theorem dX4_init_81 : decode cX4_init 81 = .ok (.getfield 7, 3) := by decide +kernel
theorem dX4_init_84 : decode cX4_init 84 = .ok (.bipush 6, 2) := by decide +kernel
theorem dX4_init_86 : decode cX4_init 86 = .ok (.bipush 10, 2) := by decide +kernel
theorem dX4_init_88 : decode cX4_init 88 = .ok (.iastore, 1) := by decide +kernel
theorem dX4_init_89 : decode cX4_init 89 = .ok (.aload_n 0, 1) := by decide +kernel
theorem dX4_init_90 : decode cX4_init 90 = .ok (.getfield 7, 3) := by decide +kernel
theorem dX4_init_93 : decode cX4_init 93 = .ok (.bipush 7, 2) := by decide +kernel
theorem dX4_init_95 : decode cX4_init 95 = .ok (.iconst 2, 1) := by decide +kernel
theorem dX4_init_96 : decode cX4_init 96 = .ok (.iastore, 1) := by decide +kernel
theorem dX4_init_97 : decode cX4_init 97 = .ok (.return_, 1) := by decide +kernel
theorem dX4_in_0 : decode cX4_in 0 = .ok (.iload_n 0, 1) := by decide +kernel
theorem dX4_in_1 : decode cX4_in 1 = .ok (.iload_n 1, 1) := by decide +kernel
theorem dX4_in_2 : decode cX4_in 2 = .ok (.if_icmp .lt 12, 3) := by decide +kernel
theorem dX4_in_5 : decode cX4_in 5 = .ok (.iload_n 0, 1) := by decide +kernel
theorem dX4_in_6 : decode cX4_in 6 = .ok (.iload_n 2, 1) := by decide +kernel
theorem dX4_in_7 : decode cX4_in 7 = .ok (.if_icmp .gt 7, 3) := by decide +kernel
theorem dX4_in_10 : decode cX4_in 10 = .ok (.iconst 1, 1) := by decide +kernel
theorem dX4_in_11 : decode cX4_in 11 = .ok (.goto 4, 3) := by decide +kernel
theorem dX4_in_14 : decode cX4_in 14 = .ok (.iconst 0, 1) := by decide +kernel
theorem dX4_in_15 : decode cX4_in 15 = .ok (.ireturn, 1) := by decide +kernel
theorem dX4_has_0 : decode cX4_has 0 = .ok (.iload_n 0, 1) := by decide +kernel
theorem dX4_has_1 : decode cX4_has 1 = .ok (.iload_n 1, 1) := by decide +kernel
theorem dX4_has_2 : decode cX4_has 2 = .ok (.ishr, 1) := by decide +kernel
theorem dX4_has_3 : decode cX4_has 3 = .ok (.iconst 1, 1) := by decide +kernel
theorem dX4_has_4 : decode cX4_has 4 = .ok (.iand, 1) := by decide +kernel
theorem dX4_has_5 : decode cX4_has 5 = .ok (.iconst 1, 1) := by decide +kernel
theorem dX4_has_6 : decode cX4_has 6 = .ok (.if_icmp .ne 7, 3) := by decide +kernel
theorem dX4_has_9 : decode cX4_has 9 = .ok (.iconst 1, 1) := by decide +kernel
theorem dX4_has_10 : decode cX4_has 10 = .ok (.goto 4, 3) := by decide +kernel
theorem dX4_has_13 : decode cX4_has 13 = .ok (.iconst 0, 1) := by decide +kernel
theorem dX4_has_14 : decode cX4_has 14 = .ok (.ireturn, 1) := by decide +kernel
theorem dX4_bits_0 : decode cX4_bits 0 = .ok (.iconst 0, 1) := by decide +kernel
theorem dX4_bits_1 : decode cX4_bits 1 = .ok (.istore_n 1, 1) := by decide +kernel
theorem dX4_bits_2 : decode cX4_bits 2 = .ok (.iload_n 0, 1) := by decide +kernel
theorem dX4_bits_3 : decode cX4_bits 3 = .ok (.istore_n 2, 1) := by decide +kernel
theorem dX4_bits_4 : decode cX4_bits 4 = .ok (.iload_n 2, 1) := by decide +kernel
theorem dX4_bits_5 : decode cX4_bits 5 = .ok (.ifCond .eq 15, 3) := by decide +kernel
theorem dX4_bits_8 : decode cX4_bits 8 = .ok (.iinc 1 1, 3) := by decide +kernel
theorem dX4_bits_11 : decode cX4_bits 11 = .ok (.iload_n 2, 1) := by decide +kernel
theorem dX4_bits_12 : decode cX4_bits 12 = .ok (.iload_n 2, 1) := by decide +kernel
theorem dX4_bits_13 : decode cX4_bits 13 = .ok (.iconst 1, 1) := by decide +kernel
theorem dX4_bits_14 : decode cX4_bits 14 = .ok (.isub, 1) := by decide +kernel
theorem dX4_bits_15 : decode cX4_bits 15 = .ok (.iand, 1) := by decide +kernel
theorem dX4_bits_16 : decode cX4_bits 16 = .ok (.istore_n 2, 1) := by decide +kernel
theorem dX4_bits_17 : decode cX4_bits 17 = .ok (.goto (-13), 3) := by decide +kernel
theorem dX4_bits_20 : decode cX4_bits 20 = .ok (.iload_n 1, 1) := by decide +kernel
theorem dX4_bits_21 : decode cX4_bits 21 = .ok (.ireturn, 1) := by decide +kernel
theorem dX4_of_0 : decode cX4_of 0 = .ok (.aload_n 0, 1) := by decide +kernel
theorem dX4_of_1 : decode cX4_of 1 = .ok (.getfield 7, 3) := by decide +kernel
theorem dX4_of_4 : decode cX4_of 4 = .ok (.bipush 8, 2) := by decide +kernel
theorem dX4_of_6 : decode cX4_of 6 = .ok (.bipush 9, 2) := by decide +kernel
theorem dX4_of_8 : decode cX4_of 8 = .ok (.iload_n 1, 1) := by decide +kernel
theorem dX4_of_9 : decode cX4_of 9 = .ok (.imul, 1) := by decide +kernel
theorem dX4_of_10 : decode cX4_of 10 = .ok (.iadd, 1) := by decide +kernel
theorem dX4_of_11 : decode cX4_of 11 = .ok (.iload_n 2, 1) := by decide +kernel
theorem dX4_of_12 : decode cX4_of 12 = .ok (.iadd, 1) := by decide +kernel
theorem dX4_of_13 : decode cX4_of 13 = .ok (.iaload, 1) := by decide +kernel
theorem dX4_of_14 : decode cX4_of 14 = .ok (.ireturn, 1) := by decide +kernel
theorem dX4_put_0 : decode cX4_put 0 = .ok (.aload_n 0, 1) := by decide +kernel
theorem dX4_put_1 : decode cX4_put 1 = .ok (.getfield 7, 3) := by decide +kernel
theorem dX4_put_4 : decode cX4_put 4 = .ok (.bipush 8, 2) := by decide +kernel
theorem dX4_put_6 : decode cX4_put 6 = .ok (.bipush 9, 2) := by decide +kernel
theorem dX4_put_8 : decode cX4_put 8 = .ok (.iload_n 1, 1) := by decide +kernel
theorem dX4_put_9 : decode cX4_put 9 = .ok (.imul, 1) := by decide +kernel
theorem dX4_put_10 : decode cX4_put 10 = .ok (.iadd, 1) := by decide +kernel
theorem dX4_put_11 : decode cX4_put 11 = .ok (.iload_n 2, 1) := by decide +kernel
theorem dX4_put_12 : decode cX4_put 12 = .ok (.iadd, 1) := by decide +kernel
theorem dX4_put_13 : decode cX4_put 13 = .ok (.iload_n 3, 1) := by decide +kernel
theorem dX4_put_14 : decode cX4_put 14 = .ok (.iastore, 1) := by decide +kernel
theorem dX4_put_15 : decode cX4_put 15 = .ok (.return_, 1) := by decide +kernel
theorem dX4_isLamp_0 : decode cX4_isLamp 0 = .ok (.iload_n 1, 1) := by decide +kernel
theorem dX4_isLamp_1 : decode cX4_isLamp 1 = .ok (.iconst 0, 1) := by decide +kernel
theorem dX4_isLamp_2 : decode cX4_isLamp 2 = .ok (.bipush 15, 2) := by decide +kernel
theorem dX4_isLamp_4 : decode cX4_isLamp 4 = .ok (.invokestatic 35, 3) := by decide +kernel
theorem dX4_isLamp_7 : decode cX4_isLamp 7 = .ok (.ifCond .eq 17, 3) := by decide +kernel
theorem dX4_isLamp_10 : decode cX4_isLamp 10 = .ok (.aload_n 0, 1) := by decide +kernel
theorem dX4_isLamp_11 : decode cX4_isLamp 11 = .ok (.iload_n 1, 1) := by decide +kernel
theorem dX4_isLamp_12 : decode cX4_isLamp 12 = .ok (.iconst 0, 1) := by decide +kernel
theorem dX4_isLamp_13 : decode cX4_isLamp 13 = .ok (.invokevirtual 39, 3) := by decide +kernel
theorem dX4_isLamp_16 : decode cX4_isLamp 16 = .ok (.iconst 1, 1) := by decide +kernel
theorem dX4_isLamp_17 : decode cX4_isLamp 17 = .ok (.if_icmp .ne 7, 3) := by decide +kernel
theorem dX4_isLamp_20 : decode cX4_isLamp 20 = .ok (.iconst 1, 1) := by decide +kernel
theorem dX4_isLamp_21 : decode cX4_isLamp 21 = .ok (.goto 4, 3) := by decide +kernel
theorem dX4_isLamp_24 : decode cX4_isLamp 24 = .ok (.iconst 0, 1) := by decide +kernel
theorem dX4_isLamp_25 : decode cX4_isLamp 25 = .ok (.ireturn, 1) := by decide +kernel
theorem dX4_isOn_0 : decode cX4_isOn 0 = .ok (.aload_n 0, 1) := by decide +kernel
theorem dX4_isOn_1 : decode cX4_isOn 1 = .ok (.iload_n 1, 1) := by decide +kernel
theorem dX4_isOn_2 : decode cX4_isOn 2 = .ok (.iconst 0, 1) := by decide +kernel
theorem dX4_isOn_3 : decode cX4_isOn 3 = .ok (.invokevirtual 39, 3) := by decide +kernel
theorem dX4_isOn_6 : decode cX4_isOn 6 = .ok (.iconst 1, 1) := by decide +kernel
theorem dX4_isOn_7 : decode cX4_isOn 7 = .ok (.if_icmp .ne 17, 3) := by decide +kernel
theorem dX4_isOn_10 : decode cX4_isOn 10 = .ok (.aload_n 0, 1) := by decide +kernel
theorem dX4_isOn_11 : decode cX4_isOn 11 = .ok (.iload_n 1, 1) := by decide +kernel
theorem dX4_isOn_12 : decode cX4_isOn 12 = .ok (.iconst 3, 1) := by decide +kernel
theorem dX4_isOn_13 : decode cX4_isOn 13 = .ok (.invokevirtual 39, 3) := by decide +kernel
theorem dX4_isOn_16 : decode cX4_isOn 16 = .ok (.iconst 1, 1) := by decide +kernel
theorem dX4_isOn_17 : decode cX4_isOn 17 = .ok (.if_icmp .ne 7, 3) := by decide +kernel
theorem dX4_isOn_20 : decode cX4_isOn 20 = .ok (.iconst 1, 1) := by decide +kernel
theorem dX4_isOn_21 : decode cX4_isOn 21 = .ok (.goto 4, 3) := by decide +kernel
theorem dX4_isOn_24 : decode cX4_isOn 24 = .ok (.iconst 0, 1) := by decide +kernel
theorem dX4_isOn_25 : decode cX4_isOn 25 = .ok (.ireturn, 1) := by decide +kernel
theorem dX4_round_0 : decode cX4_round 0 = .ok (.bipush 100, 2) := by decide +kernel
theorem dX4_round_2 : decode cX4_round 2 = .ok (.aload_n 0, 1) := by decide +kernel
theorem dX4_round_3 : decode cX4_round 3 = .ok (.getfield 7, 3) := by decide +kernel
theorem dX4_round_6 : decode cX4_round 6 = .ok (.iconst 5, 1) := by decide +kernel
theorem dX4_round_7 : decode cX4_round 7 = .ok (.iaload, 1) := by decide +kernel
theorem dX4_round_8 : decode cX4_round 8 = .ok (.imul, 1) := by decide +kernel
theorem dX4_round_9 : decode cX4_round 9 = .ok (.ireturn, 1) := by decide +kernel
theorem dX4_copy_0 : decode cX4_copy 0 = .ok (.iconst 0, 1) := by decide +kernel
theorem dX4_copy_1 : decode cX4_copy 1 = .ok (.istore 4, 2) := by decide +kernel
theorem dX4_copy_3 : decode cX4_copy 3 = .ok (.iload 4, 2) := by decide +kernel
theorem dX4_copy_5 : decode cX4_copy 5 = .ok (.sipush 152, 3) := by decide +kernel
theorem dX4_copy_8 : decode cX4_copy 8 = .ok (.if_icmp .ge 21, 3) := by decide +kernel
theorem dX4_copy_11 : decode cX4_copy 11 = .ok (.aload_n 2, 1) := by decide +kernel
theorem dX4_copy_12 : decode cX4_copy 12 = .ok (.iload_n 3, 1) := by decide +kernel
theorem dX4_copy_13 : decode cX4_copy 13 = .ok (.iload 4, 2) := by decide +kernel
theorem dX4_copy_15 : decode cX4_copy 15 = .ok (.iadd, 1) := by decide +kernel
theorem dX4_copy_16 : decode cX4_copy 16 = .ok (.aload_n 0, 1) := by decide +kernel
theorem dX4_copy_17 : decode cX4_copy 17 = .ok (.iload_n 1, 1) := by decide +kernel
theorem dX4_copy_18 : decode cX4_copy 18 = .ok (.iload 4, 2) := by decide +kernel
theorem dX4_copy_20 : decode cX4_copy 20 = .ok (.iadd, 1) := by decide +kernel
theorem dX4_copy_21 : decode cX4_copy 21 = .ok (.iaload, 1) := by decide +kernel
theorem dX4_copy_22 : decode cX4_copy 22 = .ok (.iastore, 1) := by decide +kernel
theorem dX4_copy_23 : decode cX4_copy 23 = .ok (.iinc 4 1, 3) := by decide +kernel
theorem dX4_copy_26 : decode cX4_copy 26 = .ok (.goto (-23), 3) := by decide +kernel
theorem dX4_copy_29 : decode cX4_copy 29 = .ok (.return_, 1) := by decide +kernel
theorem dX4_record_0 : decode cX4_record 0 = .ok (.aload_n 0, 1) := by decide +kernel
theorem dX4_record_1 : decode cX4_record 1 = .ok (.getfield 43, 3) := by decide +kernel
theorem dX4_record_4 : decode cX4_record 4 = .ok (.iconst 4, 1) := by decide +kernel
theorem dX4_record_5 : decode cX4_record 5 = .ok (.if_icmp .ne 44, 3) := by decide +kernel
theorem dX4_record_8 : decode cX4_record 8 = .ok (.iconst 0, 1) := by decide +kernel
theorem dX4_record_9 : decode cX4_record 9 = .ok (.istore_n 1, 1) := by decide +kernel
theorem dX4_record_10 : decode cX4_record 10 = .ok (.iload_n 1, 1) := by decide +kernel
theorem dX4_record_11 : decode cX4_record 11 = .ok (.sipush 456, 3) := by decide +kernel
theorem dX4_record_14 : decode cX4_record 14 = .ok (.if_icmp .ge 25, 3) := by decide +kernel
theorem dX4_record_17 : decode cX4_record 17 = .ok (.aload_n 0, 1) := by decide +kernel
theorem dX4_record_18 : decode cX4_record 18 = .ok (.getfield 13, 3) := by decide +kernel
theorem dX4_record_21 : decode cX4_record 21 = .ok (.iload_n 1, 1) := by decide +kernel
theorem dX4_record_22 : decode cX4_record 22 = .ok (.aload_n 0, 1) := by decide +kernel
theorem dX4_record_23 : decode cX4_record 23 = .ok (.getfield 13, 3) := by decide +kernel
theorem dX4_record_26 : decode cX4_record 26 = .ok (.sipush 152, 3) := by decide +kernel
theorem dX4_record_29 : decode cX4_record 29 = .ok (.iload_n 1, 1) := by decide +kernel
theorem dX4_record_30 : decode cX4_record 30 = .ok (.iadd, 1) := by decide +kernel
theorem dX4_record_31 : decode cX4_record 31 = .ok (.iaload, 1) := by decide +kernel
theorem dX4_record_32 : decode cX4_record 32 = .ok (.iastore, 1) := by decide +kernel
theorem dX4_record_33 : decode cX4_record 33 = .ok (.iinc 1 1, 3) := by decide +kernel
theorem dX4_record_36 : decode cX4_record 36 = .ok (.goto (-26), 3) := by decide +kernel
theorem dX4_record_39 : decode cX4_record 39 = .ok (.aload_n 0, 1) := by decide +kernel
theorem dX4_record_40 : decode cX4_record 40 = .ok (.dup, 1) := by decide +kernel
theorem dX4_record_41 : decode cX4_record 41 = .ok (.getfield 43, 3) := by decide +kernel
theorem dX4_record_44 : decode cX4_record 44 = .ok (.iconst 1, 1) := by decide +kernel
theorem dX4_record_45 : decode cX4_record 45 = .ok (.isub, 1) := by decide +kernel
theorem dX4_record_46 : decode cX4_record 46 = .ok (.putfield 43, 3) := by decide +kernel
theorem dX4_record_49 : decode cX4_record 49 = .ok (.aload_n 0, 1) := by decide +kernel
theorem dX4_record_50 : decode cX4_record 50 = .ok (.getfield 7, 3) := by decide +kernel
theorem dX4_record_53 : decode cX4_record 53 = .ok (.iconst 0, 1) := by decide +kernel
theorem dX4_record_54 : decode cX4_record 54 = .ok (.aload_n 0, 1) := by decide +kernel
theorem dX4_record_55 : decode cX4_record 55 = .ok (.getfield 13, 3) := by decide +kernel
theorem dX4_record_58 : decode cX4_record 58 = .ok (.sipush 152, 3) := by decide +kernel
theorem dX4_record_61 : decode cX4_record 61 = .ok (.aload_n 0, 1) := by decide +kernel
theorem dX4_record_62 : decode cX4_record 62 = .ok (.getfield 43, 3) := by decide +kernel
theorem dX4_record_65 : decode cX4_record 65 = .ok (.imul, 1) := by decide +kernel
theorem dX4_record_66 : decode cX4_record 66 = .ok (.invokestatic 47, 3) := by decide +kernel
theorem dX4_record_69 : decode cX4_record 69 = .ok (.aload_n 0, 1) := by decide +kernel
theorem dX4_record_70 : decode cX4_record 70 = .ok (.dup, 1) := by decide +kernel
theorem dX4_record_71 : decode cX4_record 71 = .ok (.getfield 43, 3) := by decide +kernel
theorem dX4_record_74 : decode cX4_record 74 = .ok (.iconst 1, 1) := by decide +kernel
theorem dX4_record_75 : decode cX4_record 75 = .ok (.iadd, 1) := by decide +kernel
theorem dX4_record_76 : decode cX4_record 76 = .ok (.putfield 43, 3) := by decide +kernel
theorem dX4_record_79 : decode cX4_record 79 = .ok (.return_, 1) := by decide +kernel
theorem dX4_setOf_0 : decode cX4_setOf 0 = .ok (.iconst 0, 1) := by decide +kernel
theorem dX4_setOf_1 : decode cX4_setOf 1 = .ok (.istore_n 2, 1) := by decide +kernel
theorem dX4_setOf_2 : decode cX4_setOf 2 = .ok (.iconst 0, 1) := by decide +kernel
theorem dX4_setOf_3 : decode cX4_setOf 3 = .ok (.istore_n 3, 1) := by decide +kernel
theorem dX4_setOf_4 : decode cX4_setOf 4 = .ok (.iload_n 3, 1) := by decide +kernel
theorem dX4_setOf_5 : decode cX4_setOf 5 = .ok (.bipush 16, 2) := by decide +kernel
theorem dX4_setOf_7 : decode cX4_setOf 7 = .ok (.if_icmp .ge 39, 3) := by decide +kernel
theorem dX4_setOf_10 : decode cX4_setOf 10 = .ok (.iload_n 2, 1) := by decide +kernel
theorem dX4_setOf_11 : decode cX4_setOf 11 = .ok (.aload_n 0, 1) := by decide +kernel
theorem dX4_setOf_12 : decode cX4_setOf 12 = .ok (.iload_n 3, 1) := by decide +kernel
theorem dX4_setOf_13 : decode cX4_setOf 13 = .ok (.iconst 0, 1) := by decide +kernel
theorem dX4_setOf_14 : decode cX4_setOf 14 = .ok (.invokevirtual 39, 3) := by decide +kernel
theorem dX4_setOf_17 : decode cX4_setOf 17 = .ok (.iconst 1, 1) := by decide +kernel
theorem dX4_setOf_18 : decode cX4_setOf 18 = .ok (.if_icmp .ne 19, 3) := by decide +kernel
theorem dX4_setOf_21 : decode cX4_setOf 21 = .ok (.aload_n 0, 1) := by decide +kernel
theorem dX4_setOf_22 : decode cX4_setOf 22 = .ok (.iload_n 3, 1) := by decide +kernel
theorem dX4_setOf_23 : decode cX4_setOf 23 = .ok (.iload_n 1, 1) := by decide +kernel
theorem dX4_setOf_24 : decode cX4_setOf 24 = .ok (.invokevirtual 39, 3) := by decide +kernel
theorem dX4_setOf_27 : decode cX4_setOf 27 = .ok (.iconst 1, 1) := by decide +kernel
theorem dX4_setOf_28 : decode cX4_setOf 28 = .ok (.if_icmp .ne 9, 3) := by decide +kernel
theorem dX4_setOf_31 : decode cX4_setOf 31 = .ok (.iconst 1, 1) := by decide +kernel
theorem dX4_setOf_32 : decode cX4_setOf 32 = .ok (.iload_n 3, 1) := by decide +kernel
theorem dX4_setOf_33 : decode cX4_setOf 33 = .ok (.ishl, 1) := by decide +kernel
theorem dX4_setOf_34 : decode cX4_setOf 34 = .ok (.goto 4, 3) := by decide +kernel
theorem dX4_setOf_37 : decode cX4_setOf 37 = .ok (.iconst 0, 1) := by decide +kernel
theorem dX4_setOf_38 : decode cX4_setOf 38 = .ok (.ior, 1) := by decide +kernel
theorem dX4_setOf_39 : decode cX4_setOf 39 = .ok (.istore_n 2, 1) := by decide +kernel
theorem dX4_setOf_40 : decode cX4_setOf 40 = .ok (.iinc 3 1, 3) := by decide +kernel
theorem dX4_setOf_43 : decode cX4_setOf 43 = .ok (.goto (-39), 3) := by decide +kernel
theorem dX4_setOf_46 : decode cX4_setOf 46 = .ok (.iload_n 2, 1) := by decide +kernel
theorem dX4_setOf_47 : decode cX4_setOf 47 = .ok (.ireturn, 1) := by decide +kernel
theorem dX4_lampsOn_0 : decode cX4_lampsOn 0 = .ok (.aload_n 0, 1) := by decide +kernel
theorem dX4_lampsOn_1 : decode cX4_lampsOn 1 = .ok (.iconst 3, 1) := by decide +kernel
theorem dX4_lampsOn_2 : decode cX4_lampsOn 2 = .ok (.invokevirtual 51, 3) := by decide +kernel
theorem dX4_lampsOn_5 : decode cX4_lampsOn 5 = .ok (.ireturn, 1) := by decide +kernel
theorem dX4_links_0 : decode cX4_links 0 = .ok (.iconst 0, 1) := by decide +kernel
theorem dX4_links_1 : decode cX4_links 1 = .ok (.istore_n 1, 1) := by decide +kernel
theorem dX4_links_2 : decode cX4_links 2 = .ok (.iconst 0, 1) := by decide +kernel
theorem dX4_links_3 : decode cX4_links 3 = .ok (.istore_n 2, 1) := by decide +kernel
theorem dX4_links_4 : decode cX4_links 4 = .ok (.iload_n 2, 1) := by decide +kernel
theorem dX4_links_5 : decode cX4_links 5 = .ok (.bipush 16, 2) := by decide +kernel
theorem dX4_links_7 : decode cX4_links 7 = .ok (.if_icmp .ge 22, 3) := by decide +kernel
theorem dX4_links_10 : decode cX4_links 10 = .ok (.iload_n 1, 1) := by decide +kernel
theorem dX4_links_11 : decode cX4_links 11 = .ok (.aload_n 0, 1) := by decide +kernel
theorem dX4_links_12 : decode cX4_links 12 = .ok (.iload_n 2, 1) := by decide +kernel
theorem dX4_links_13 : decode cX4_links 13 = .ok (.bipush 8, 2) := by decide +kernel
theorem dX4_links_15 : decode cX4_links 15 = .ok (.invokevirtual 39, 3) := by decide +kernel
theorem dX4_links_18 : decode cX4_links 18 = .ok (.invokestatic 55, 3) := by decide +kernel
theorem dX4_links_21 : decode cX4_links 21 = .ok (.iadd, 1) := by decide +kernel
theorem dX4_links_22 : decode cX4_links 22 = .ok (.istore_n 1, 1) := by decide +kernel
theorem dX4_links_23 : decode cX4_links 23 = .ok (.iinc 2 1, 3) := by decide +kernel
theorem dX4_links_26 : decode cX4_links 26 = .ok (.goto (-22), 3) := by decide +kernel
theorem dX4_links_29 : decode cX4_links 29 = .ok (.iload_n 1, 1) := by decide +kernel
theorem dX4_links_30 : decode cX4_links 30 = .ok (.iconst 2, 1) := by decide +kernel
theorem dX4_links_31 : decode cX4_links 31 = .ok (.idiv, 1) := by decide +kernel
theorem dX4_links_32 : decode cX4_links 32 = .ok (.ireturn, 1) := by decide +kernel
theorem dX4_grow_0 : decode cX4_grow 0 = .ok (.iconst 0, 1) := by decide +kernel
theorem dX4_grow_1 : decode cX4_grow 1 = .ok (.istore_n 1, 1) := by decide +kernel
theorem dX4_grow_2 : decode cX4_grow 2 = .ok (.iload_n 1, 1) := by decide +kernel
theorem dX4_grow_3 : decode cX4_grow 3 = .ok (.bipush 16, 2) := by decide +kernel
theorem dX4_grow_5 : decode cX4_grow 5 = .ok (.if_icmp .ge 63, 3) := by decide +kernel
theorem dX4_grow_8 : decode cX4_grow 8 = .ok (.aload_n 0, 1) := by decide +kernel
theorem dX4_grow_9 : decode cX4_grow 9 = .ok (.iload_n 1, 1) := by decide +kernel
theorem dX4_grow_10 : decode cX4_grow 10 = .ok (.invokevirtual 58, 3) := by decide +kernel
theorem dX4_grow_13 : decode cX4_grow 13 = .ok (.ifCond .eq 49, 3) := by decide +kernel
theorem dX4_grow_16 : decode cX4_grow 16 = .ok (.aload_n 0, 1) := by decide +kernel
theorem dX4_grow_17 : decode cX4_grow 17 = .ok (.iload_n 1, 1) := by decide +kernel
theorem dX4_grow_18 : decode cX4_grow 18 = .ok (.iconst 1, 1) := by decide +kernel
theorem dX4_grow_19 : decode cX4_grow 19 = .ok (.aload_n 0, 1) := by decide +kernel
theorem dX4_grow_20 : decode cX4_grow 20 = .ok (.iload_n 1, 1) := by decide +kernel
theorem dX4_grow_21 : decode cX4_grow 21 = .ok (.iconst 1, 1) := by decide +kernel
theorem dX4_grow_22 : decode cX4_grow 22 = .ok (.invokevirtual 39, 3) := by decide +kernel
theorem dX4_grow_25 : decode cX4_grow 25 = .ok (.aload_n 0, 1) := by decide +kernel
theorem dX4_grow_26 : decode cX4_grow 26 = .ok (.iload_n 1, 1) := by decide +kernel
theorem dX4_grow_27 : decode cX4_grow 27 = .ok (.iconst 2, 1) := by decide +kernel
theorem dX4_grow_28 : decode cX4_grow 28 = .ok (.invokevirtual 39, 3) := by decide +kernel
theorem dX4_grow_31 : decode cX4_grow 31 = .ok (.iadd, 1) := by decide +kernel
theorem dX4_grow_32 : decode cX4_grow 32 = .ok (.invokevirtual 62, 3) := by decide +kernel
theorem dX4_grow_35 : decode cX4_grow 35 = .ok (.aload_n 0, 1) := by decide +kernel
theorem dX4_grow_36 : decode cX4_grow 36 = .ok (.iload_n 1, 1) := by decide +kernel
theorem dX4_grow_37 : decode cX4_grow 37 = .ok (.iconst 4, 1) := by decide +kernel
theorem dX4_grow_38 : decode cX4_grow 38 = .ok (.aload_n 0, 1) := by decide +kernel
theorem dX4_grow_39 : decode cX4_grow 39 = .ok (.iload_n 1, 1) := by decide +kernel
theorem dX4_grow_40 : decode cX4_grow 40 = .ok (.iconst 4, 1) := by decide +kernel
theorem dX4_grow_41 : decode cX4_grow 41 = .ok (.invokevirtual 39, 3) := by decide +kernel
theorem dX4_grow_44 : decode cX4_grow 44 = .ok (.ifCond .le 14, 3) := by decide +kernel
theorem dX4_grow_47 : decode cX4_grow 47 = .ok (.aload_n 0, 1) := by decide +kernel
theorem dX4_grow_48 : decode cX4_grow 48 = .ok (.iload_n 1, 1) := by decide +kernel
theorem dX4_grow_49 : decode cX4_grow 49 = .ok (.iconst 4, 1) := by decide +kernel
theorem dX4_grow_50 : decode cX4_grow 50 = .ok (.invokevirtual 39, 3) := by decide +kernel
theorem dX4_grow_53 : decode cX4_grow 53 = .ok (.iconst 1, 1) := by decide +kernel
theorem dX4_grow_54 : decode cX4_grow 54 = .ok (.isub, 1) := by decide +kernel
theorem dX4_grow_55 : decode cX4_grow 55 = .ok (.goto 4, 3) := by decide +kernel
theorem dX4_grow_58 : decode cX4_grow 58 = .ok (.iconst 0, 1) := by decide +kernel
theorem dX4_grow_59 : decode cX4_grow 59 = .ok (.invokevirtual 62, 3) := by decide +kernel
theorem dX4_grow_62 : decode cX4_grow 62 = .ok (.iinc 1 1, 3) := by decide +kernel
theorem dX4_grow_65 : decode cX4_grow 65 = .ok (.goto (-63), 3) := by decide +kernel
theorem dX4_grow_68 : decode cX4_grow 68 = .ok (.return_, 1) := by decide +kernel
theorem dX4_blink_0 : decode cX4_blink 0 = .ok (.iconst 0, 1) := by decide +kernel
theorem dX4_blink_1 : decode cX4_blink 1 = .ok (.istore_n 2, 1) := by decide +kernel
theorem dX4_blink_2 : decode cX4_blink 2 = .ok (.iconst 0, 1) := by decide +kernel
theorem dX4_blink_3 : decode cX4_blink 3 = .ok (.istore_n 3, 1) := by decide +kernel
theorem dX4_blink_4 : decode cX4_blink 4 = .ok (.iload_n 3, 1) := by decide +kernel
theorem dX4_blink_5 : decode cX4_blink 5 = .ok (.bipush 16, 2) := by decide +kernel
theorem dX4_blink_7 : decode cX4_blink 7 = .ok (.if_icmp .ge 93, 3) := by decide +kernel
theorem dX4_blink_10 : decode cX4_blink 10 = .ok (.iload_n 1, 1) := by decide +kernel
theorem dX4_blink_11 : decode cX4_blink 11 = .ok (.iload_n 3, 1) := by decide +kernel
theorem dX4_blink_12 : decode cX4_blink 12 = .ok (.invokestatic 66, 3) := by decide +kernel
theorem dX4_blink_15 : decode cX4_blink 15 = .ok (.ifCond .eq 79, 3) := by decide +kernel
theorem dX4_blink_18 : decode cX4_blink 18 = .ok (.aload_n 0, 1) := by decide +kernel
theorem dX4_blink_19 : decode cX4_blink 19 = .ok (.iload_n 3, 1) := by decide +kernel
theorem dX4_blink_20 : decode cX4_blink 20 = .ok (.invokevirtual 58, 3) := by decide +kernel
theorem dX4_blink_23 : decode cX4_blink 23 = .ok (.ifCond .eq 71, 3) := by decide +kernel
theorem dX4_blink_26 : decode cX4_blink 26 = .ok (.aload_n 0, 1) := by decide +kernel
theorem dX4_blink_27 : decode cX4_blink 27 = .ok (.iload_n 3, 1) := by decide +kernel
theorem dX4_blink_28 : decode cX4_blink 28 = .ok (.iconst 1, 1) := by decide +kernel
theorem dX4_blink_29 : decode cX4_blink 29 = .ok (.invokevirtual 39, 3) := by decide +kernel
theorem dX4_blink_32 : decode cX4_blink 32 = .ok (.aload_n 0, 1) := by decide +kernel
theorem dX4_blink_33 : decode cX4_blink 33 = .ok (.invokevirtual 70, 3) := by decide +kernel
theorem dX4_blink_36 : decode cX4_blink 36 = .ok (.if_icmp .lt 58, 3) := by decide +kernel
theorem dX4_blink_39 : decode cX4_blink 39 = .ok (.iload_n 2, 1) := by decide +kernel
theorem dX4_blink_40 : decode cX4_blink 40 = .ok (.iconst 1, 1) := by decide +kernel
theorem dX4_blink_41 : decode cX4_blink 41 = .ok (.iload_n 3, 1) := by decide +kernel
theorem dX4_blink_42 : decode cX4_blink 42 = .ok (.ishl, 1) := by decide +kernel
theorem dX4_blink_43 : decode cX4_blink 43 = .ok (.ior, 1) := by decide +kernel
theorem dX4_blink_44 : decode cX4_blink 44 = .ok (.istore_n 2, 1) := by decide +kernel
theorem dX4_blink_45 : decode cX4_blink 45 = .ok (.aload_n 0, 1) := by decide +kernel
theorem dX4_blink_46 : decode cX4_blink 46 = .ok (.iload_n 3, 1) := by decide +kernel
theorem dX4_blink_47 : decode cX4_blink 47 = .ok (.iconst 1, 1) := by decide +kernel
theorem dX4_blink_48 : decode cX4_blink 48 = .ok (.iconst 0, 1) := by decide +kernel
theorem dX4_blink_49 : decode cX4_blink 49 = .ok (.invokevirtual 62, 3) := by decide +kernel
theorem dX4_blink_52 : decode cX4_blink 52 = .ok (.aload_n 0, 1) := by decide +kernel
theorem dX4_blink_53 : decode cX4_blink 53 = .ok (.iload_n 3, 1) := by decide +kernel
theorem dX4_blink_54 : decode cX4_blink 54 = .ok (.iconst 4, 1) := by decide +kernel
theorem dX4_blink_55 : decode cX4_blink 55 = .ok (.aload_n 0, 1) := by decide +kernel
theorem dX4_blink_56 : decode cX4_blink 56 = .ok (.getfield 7, 3) := by decide +kernel
theorem dX4_blink_59 : decode cX4_blink 59 = .ok (.bipush 7, 2) := by decide +kernel
theorem dX4_blink_61 : decode cX4_blink 61 = .ok (.iaload, 1) := by decide +kernel
theorem dX4_blink_62 : decode cX4_blink 62 = .ok (.invokevirtual 62, 3) := by decide +kernel
theorem dX4_blink_65 : decode cX4_blink 65 = .ok (.aload_n 0, 1) := by decide +kernel
theorem dX4_blink_66 : decode cX4_blink 66 = .ok (.iload_n 3, 1) := by decide +kernel
theorem dX4_blink_67 : decode cX4_blink 67 = .ok (.iconst 5, 1) := by decide +kernel
theorem dX4_blink_68 : decode cX4_blink 68 = .ok (.aload_n 0, 1) := by decide +kernel
theorem dX4_blink_69 : decode cX4_blink 69 = .ok (.iload_n 3, 1) := by decide +kernel
theorem dX4_blink_70 : decode cX4_blink 70 = .ok (.iconst 5, 1) := by decide +kernel
theorem dX4_blink_71 : decode cX4_blink 71 = .ok (.invokevirtual 39, 3) := by decide +kernel
theorem dX4_blink_74 : decode cX4_blink 74 = .ok (.iconst 1, 1) := by decide +kernel
theorem dX4_blink_75 : decode cX4_blink 75 = .ok (.iadd, 1) := by decide +kernel
theorem dX4_blink_76 : decode cX4_blink 76 = .ok (.invokevirtual 62, 3) := by decide +kernel
theorem dX4_blink_79 : decode cX4_blink 79 = .ok (.aload_n 0, 1) := by decide +kernel
theorem dX4_blink_80 : decode cX4_blink 80 = .ok (.iload_n 3, 1) := by decide +kernel
theorem dX4_blink_81 : decode cX4_blink 81 = .ok (.bipush 6, 2) := by decide +kernel
theorem dX4_blink_83 : decode cX4_blink 83 = .ok (.aload_n 0, 1) := by decide +kernel
theorem dX4_blink_84 : decode cX4_blink 84 = .ok (.getfield 7, 3) := by decide +kernel
theorem dX4_blink_87 : decode cX4_blink 87 = .ok (.iconst 0, 1) := by decide +kernel
theorem dX4_blink_88 : decode cX4_blink 88 = .ok (.iaload, 1) := by decide +kernel
theorem dX4_blink_89 : decode cX4_blink 89 = .ok (.iconst 1, 1) := by decide +kernel
theorem dX4_blink_90 : decode cX4_blink 90 = .ok (.iadd, 1) := by decide +kernel
theorem dX4_blink_91 : decode cX4_blink 91 = .ok (.invokevirtual 62, 3) := by decide +kernel
theorem dX4_blink_94 : decode cX4_blink 94 = .ok (.iinc 3 1, 3) := by decide +kernel
theorem dX4_blink_97 : decode cX4_blink 97 = .ok (.goto (-93), 3) := by decide +kernel
theorem dX4_blink_100 : decode cX4_blink 100 = .ok (.iload_n 2, 1) := by decide +kernel
theorem dX4_blink_101 : decode cX4_blink 101 = .ok (.ireturn, 1) := by decide +kernel
theorem dX4_push_0 : decode cX4_push 0 = .ok (.iconst 0, 1) := by decide +kernel
theorem dX4_push_1 : decode cX4_push 1 = .ok (.istore_n 3, 1) := by decide +kernel
theorem dX4_push_2 : decode cX4_push 2 = .ok (.iconst 0, 1) := by decide +kernel
theorem dX4_push_3 : decode cX4_push 3 = .ok (.istore 4, 2) := by decide +kernel
theorem dX4_push_5 : decode cX4_push 5 = .ok (.iload 4, 2) := by decide +kernel
theorem dX4_push_7 : decode cX4_push 7 = .ok (.bipush 16, 2) := by decide +kernel
theorem dX4_push_9 : decode cX4_push 9 = .ok (.if_icmp .ge 159, 3) := by decide +kernel
theorem dX4_push_12 : decode cX4_push 12 = .ok (.iload_n 2, 1) := by decide +kernel
theorem dX4_push_13 : decode cX4_push 13 = .ok (.iload 4, 2) := by decide +kernel
theorem dX4_push_15 : decode cX4_push 15 = .ok (.invokestatic 66, 3) := by decide +kernel
theorem dX4_push_18 : decode cX4_push 18 = .ok (.ifCond .ne 22, 3) := by decide +kernel
theorem dX4_push_21 : decode cX4_push 21 = .ok (.aload_n 0, 1) := by decide +kernel
theorem dX4_push_22 : decode cX4_push 22 = .ok (.iload 4, 2) := by decide +kernel
theorem dX4_push_24 : decode cX4_push 24 = .ok (.invokevirtual 58, 3) := by decide +kernel
theorem dX4_push_27 : decode cX4_push 27 = .ok (.ifCond .eq 13, 3) := by decide +kernel
theorem dX4_push_30 : decode cX4_push 30 = .ok (.aload_n 0, 1) := by decide +kernel
theorem dX4_push_31 : decode cX4_push 31 = .ok (.iload 4, 2) := by decide +kernel
theorem dX4_push_33 : decode cX4_push 33 = .ok (.iconst 4, 1) := by decide +kernel
theorem dX4_push_34 : decode cX4_push 34 = .ok (.invokevirtual 39, 3) := by decide +kernel
theorem dX4_push_37 : decode cX4_push 37 = .ok (.ifCond .le 7, 3) := by decide +kernel
theorem dX4_push_40 : decode cX4_push 40 = .ok (.iconst 0, 1) := by decide +kernel
theorem dX4_push_41 : decode cX4_push 41 = .ok (.goto 13, 3) := by decide +kernel
theorem dX4_push_44 : decode cX4_push 44 = .ok (.aload_n 0, 1) := by decide +kernel
theorem dX4_push_45 : decode cX4_push 45 = .ok (.iload 4, 2) := by decide +kernel
theorem dX4_push_47 : decode cX4_push 47 = .ok (.bipush 8, 2) := by decide +kernel
theorem dX4_push_49 : decode cX4_push 49 = .ok (.invokevirtual 39, 3) := by decide +kernel
theorem dX4_push_52 : decode cX4_push 52 = .ok (.iload_n 1, 1) := by decide +kernel
theorem dX4_push_53 : decode cX4_push 53 = .ok (.iand, 1) := by decide +kernel
theorem dX4_push_54 : decode cX4_push 54 = .ok (.istore 5, 2) := by decide +kernel
theorem dX4_push_56 : decode cX4_push 56 = .ok (.iload 5, 2) := by decide +kernel
theorem dX4_push_58 : decode cX4_push 58 = .ok (.invokestatic 55, 3) := by decide +kernel
theorem dX4_push_61 : decode cX4_push 61 = .ok (.istore 6, 2) := by decide +kernel
theorem dX4_push_63 : decode cX4_push 63 = .ok (.iload 6, 2) := by decide +kernel
theorem dX4_push_65 : decode cX4_push 65 = .ok (.ifCond .le 97, 3) := by decide +kernel
theorem dX4_push_68 : decode cX4_push 68 = .ok (.aload_n 0, 1) := by decide +kernel
theorem dX4_push_69 : decode cX4_push 69 = .ok (.iload 4, 2) := by decide +kernel
theorem dX4_push_71 : decode cX4_push 71 = .ok (.iconst 1, 1) := by decide +kernel
theorem dX4_push_72 : decode cX4_push 72 = .ok (.invokevirtual 39, 3) := by decide +kernel
theorem dX4_push_75 : decode cX4_push 75 = .ok (.aload_n 0, 1) := by decide +kernel
theorem dX4_push_76 : decode cX4_push 76 = .ok (.iload 4, 2) := by decide +kernel
theorem dX4_push_78 : decode cX4_push 78 = .ok (.iconst 1, 1) := by decide +kernel
theorem dX4_push_79 : decode cX4_push 79 = .ok (.invokevirtual 39, 3) := by decide +kernel
theorem dX4_push_82 : decode cX4_push 82 = .ok (.aload_n 0, 1) := by decide +kernel
theorem dX4_push_83 : decode cX4_push 83 = .ok (.getfield 7, 3) := by decide +kernel
theorem dX4_push_86 : decode cX4_push 86 = .ok (.bipush 6, 2) := by decide +kernel
theorem dX4_push_88 : decode cX4_push 88 = .ok (.iaload, 1) := by decide +kernel
theorem dX4_push_89 : decode cX4_push 89 = .ok (.imul, 1) := by decide +kernel
theorem dX4_push_90 : decode cX4_push 90 = .ok (.bipush 100, 2) := by decide +kernel
theorem dX4_push_92 : decode cX4_push 92 = .ok (.idiv, 1) := by decide +kernel
theorem dX4_push_93 : decode cX4_push 93 = .ok (.iadd, 1) := by decide +kernel
theorem dX4_push_94 : decode cX4_push 94 = .ok (.istore 7, 2) := by decide +kernel
theorem dX4_push_96 : decode cX4_push 96 = .ok (.aload_n 0, 1) := by decide +kernel
theorem dX4_push_97 : decode cX4_push 97 = .ok (.iload 4, 2) := by decide +kernel
theorem dX4_push_99 : decode cX4_push 99 = .ok (.iconst 1, 1) := by decide +kernel
theorem dX4_push_100 : decode cX4_push 100 = .ok (.iload 7, 2) := by decide +kernel
theorem dX4_push_102 : decode cX4_push 102 = .ok (.aload_n 0, 1) := by decide +kernel
theorem dX4_push_103 : decode cX4_push 103 = .ok (.invokevirtual 70, 3) := by decide +kernel
theorem dX4_push_106 : decode cX4_push 106 = .ok (.if_icmp .le 10, 3) := by decide +kernel
theorem dX4_push_109 : decode cX4_push 109 = .ok (.aload_n 0, 1) := by decide +kernel
theorem dX4_push_110 : decode cX4_push 110 = .ok (.invokevirtual 70, 3) := by decide +kernel
theorem dX4_push_113 : decode cX4_push 113 = .ok (.goto 5, 3) := by decide +kernel
theorem dX4_push_116 : decode cX4_push 116 = .ok (.iload 7, 2) := by decide +kernel
theorem dX4_push_118 : decode cX4_push 118 = .ok (.invokevirtual 62, 3) := by decide +kernel
theorem dX4_push_121 : decode cX4_push 121 = .ok (.aload_n 0, 1) := by decide +kernel
theorem dX4_push_122 : decode cX4_push 122 = .ok (.iload 4, 2) := by decide +kernel
theorem dX4_push_124 : decode cX4_push 124 = .ok (.bipush 7, 2) := by decide +kernel
theorem dX4_push_126 : decode cX4_push 126 = .ok (.aload_n 0, 1) := by decide +kernel
theorem dX4_push_127 : decode cX4_push 127 = .ok (.iload 4, 2) := by decide +kernel
theorem dX4_push_129 : decode cX4_push 129 = .ok (.bipush 7, 2) := by decide +kernel
theorem dX4_push_131 : decode cX4_push 131 = .ok (.invokevirtual 39, 3) := by decide +kernel
theorem dX4_push_134 : decode cX4_push 134 = .ok (.iconst 1, 1) := by decide +kernel
theorem dX4_push_135 : decode cX4_push 135 = .ok (.iadd, 1) := by decide +kernel
theorem dX4_push_136 : decode cX4_push 136 = .ok (.invokevirtual 62, 3) := by decide +kernel
theorem dX4_push_139 : decode cX4_push 139 = .ok (.aload_n 0, 1) := by decide +kernel
theorem dX4_push_140 : decode cX4_push 140 = .ok (.getfield 7, 3) := by decide +kernel
theorem dX4_push_143 : decode cX4_push 143 = .ok (.iconst 2, 1) := by decide +kernel
theorem dX4_push_144 : decode cX4_push 144 = .ok (.dup2, 1) := by decide +kernel
theorem dX4_push_145 : decode cX4_push 145 = .ok (.iaload, 1) := by decide +kernel
theorem dX4_push_146 : decode cX4_push 146 = .ok (.iconst 1, 1) := by decide +kernel
theorem dX4_push_147 : decode cX4_push 147 = .ok (.iadd, 1) := by decide +kernel
theorem dX4_push_148 : decode cX4_push 148 = .ok (.iastore, 1) := by decide +kernel
theorem dX4_push_149 : decode cX4_push 149 = .ok (.iload_n 3, 1) := by decide +kernel
theorem dX4_push_150 : decode cX4_push 150 = .ok (.iconst 1, 1) := by decide +kernel
theorem dX4_push_151 : decode cX4_push 151 = .ok (.iload 4, 2) := by decide +kernel
theorem dX4_push_153 : decode cX4_push 153 = .ok (.ishl, 1) := by decide +kernel
theorem dX4_push_154 : decode cX4_push 154 = .ok (.ior, 1) := by decide +kernel
theorem dX4_push_155 : decode cX4_push 155 = .ok (.istore_n 3, 1) := by decide +kernel
theorem dX4_push_156 : decode cX4_push 156 = .ok (.iinc 6 (-1), 3) := by decide +kernel
theorem dX4_push_159 : decode cX4_push 159 = .ok (.goto (-96), 3) := by decide +kernel
theorem dX4_push_162 : decode cX4_push 162 = .ok (.iinc 4 1, 3) := by decide +kernel
theorem dX4_push_165 : decode cX4_push 165 = .ok (.goto (-160), 3) := by decide +kernel
theorem dX4_push_168 : decode cX4_push 168 = .ok (.iload_n 3, 1) := by decide +kernel
theorem dX4_push_169 : decode cX4_push 169 = .ok (.ireturn, 1) := by decide +kernel
theorem dX4_tick_0 : decode cX4_tick 0 = .ok (.aload_n 0, 1) := by decide +kernel
theorem dX4_tick_1 : decode cX4_tick 1 = .ok (.invokevirtual 74, 3) := by decide +kernel
theorem dX4_tick_4 : decode cX4_tick 4 = .ok (.aload_n 0, 1) := by decide +kernel
theorem dX4_tick_5 : decode cX4_tick 5 = .ok (.iconst (-1), 1) := by decide +kernel
theorem dX4_tick_6 : decode cX4_tick 6 = .ok (.invokevirtual 77, 3) := by decide +kernel
theorem dX4_tick_9 : decode cX4_tick 9 = .ok (.istore_n 1, 1) := by decide +kernel
theorem dX4_tick_10 : decode cX4_tick 10 = .ok (.iload_n 1, 1) := by decide +kernel
theorem dX4_tick_11 : decode cX4_tick 11 = .ok (.istore_n 2, 1) := by decide +kernel
theorem dX4_tick_12 : decode cX4_tick 12 = .ok (.iload_n 1, 1) := by decide +kernel
theorem dX4_tick_13 : decode cX4_tick 13 = .ok (.ifCond .eq 21, 3) := by decide +kernel
theorem dX4_tick_16 : decode cX4_tick 16 = .ok (.aload_n 0, 1) := by decide +kernel
theorem dX4_tick_17 : decode cX4_tick 17 = .ok (.aload_n 0, 1) := by decide +kernel
theorem dX4_tick_18 : decode cX4_tick 18 = .ok (.iload_n 1, 1) := by decide +kernel
theorem dX4_tick_19 : decode cX4_tick 19 = .ok (.iload_n 2, 1) := by decide +kernel
theorem dX4_tick_20 : decode cX4_tick 20 = .ok (.invokevirtual 80, 3) := by decide +kernel
theorem dX4_tick_23 : decode cX4_tick 23 = .ok (.invokevirtual 77, 3) := by decide +kernel
theorem dX4_tick_26 : decode cX4_tick 26 = .ok (.istore_n 1, 1) := by decide +kernel
theorem dX4_tick_27 : decode cX4_tick 27 = .ok (.iload_n 2, 1) := by decide +kernel
theorem dX4_tick_28 : decode cX4_tick 28 = .ok (.iload_n 1, 1) := by decide +kernel
theorem dX4_tick_29 : decode cX4_tick 29 = .ok (.ior, 1) := by decide +kernel
theorem dX4_tick_30 : decode cX4_tick 30 = .ok (.istore_n 2, 1) := by decide +kernel
theorem dX4_tick_31 : decode cX4_tick 31 = .ok (.goto (-19), 3) := by decide +kernel
theorem dX4_tick_34 : decode cX4_tick 34 = .ok (.iload_n 2, 1) := by decide +kernel
theorem dX4_tick_35 : decode cX4_tick 35 = .ok (.invokestatic 55, 3) := by decide +kernel
theorem dX4_tick_38 : decode cX4_tick 38 = .ok (.istore_n 3, 1) := by decide +kernel
theorem dX4_tick_39 : decode cX4_tick 39 = .ok (.aload_n 0, 1) := by decide +kernel
theorem dX4_tick_40 : decode cX4_tick 40 = .ok (.getfield 7, 3) := by decide +kernel
theorem dX4_tick_43 : decode cX4_tick 43 = .ok (.iconst 0, 1) := by decide +kernel
theorem dX4_tick_44 : decode cX4_tick 44 = .ok (.dup2, 1) := by decide +kernel
theorem dX4_tick_45 : decode cX4_tick 45 = .ok (.iaload, 1) := by decide +kernel
theorem dX4_tick_46 : decode cX4_tick 46 = .ok (.iconst 1, 1) := by decide +kernel
theorem dX4_tick_47 : decode cX4_tick 47 = .ok (.iadd, 1) := by decide +kernel
theorem dX4_tick_48 : decode cX4_tick 48 = .ok (.iastore, 1) := by decide +kernel
theorem dX4_tick_49 : decode cX4_tick 49 = .ok (.aload_n 0, 1) := by decide +kernel
theorem dX4_tick_50 : decode cX4_tick 50 = .ok (.getfield 7, 3) := by decide +kernel
theorem dX4_tick_53 : decode cX4_tick 53 = .ok (.iconst 1, 1) := by decide +kernel
theorem dX4_tick_54 : decode cX4_tick 54 = .ok (.dup2, 1) := by decide +kernel
theorem dX4_tick_55 : decode cX4_tick 55 = .ok (.iaload, 1) := by decide +kernel
theorem dX4_tick_56 : decode cX4_tick 56 = .ok (.iload_n 3, 1) := by decide +kernel
theorem dX4_tick_57 : decode cX4_tick 57 = .ok (.iadd, 1) := by decide +kernel
theorem dX4_tick_58 : decode cX4_tick 58 = .ok (.iastore, 1) := by decide +kernel
theorem dX4_tick_59 : decode cX4_tick 59 = .ok (.aload_n 0, 1) := by decide +kernel
theorem dX4_tick_60 : decode cX4_tick 60 = .ok (.getfield 7, 3) := by decide +kernel
theorem dX4_tick_63 : decode cX4_tick 63 = .ok (.iconst 3, 1) := by decide +kernel
theorem dX4_tick_64 : decode cX4_tick 64 = .ok (.dup2, 1) := by decide +kernel
theorem dX4_tick_65 : decode cX4_tick 65 = .ok (.iaload, 1) := by decide +kernel
theorem dX4_tick_66 : decode cX4_tick 66 = .ok (.iload_n 3, 1) := by decide +kernel
theorem dX4_tick_67 : decode cX4_tick 67 = .ok (.iconst 1, 1) := by decide +kernel
theorem dX4_tick_68 : decode cX4_tick 68 = .ok (.if_icmp .le 7, 3) := by decide +kernel
theorem dX4_tick_71 : decode cX4_tick 71 = .ok (.iconst 1, 1) := by decide +kernel
theorem dX4_tick_72 : decode cX4_tick 72 = .ok (.goto 4, 3) := by decide +kernel
theorem dX4_tick_75 : decode cX4_tick 75 = .ok (.iconst 0, 1) := by decide +kernel
theorem dX4_tick_76 : decode cX4_tick 76 = .ok (.iadd, 1) := by decide +kernel
theorem dX4_tick_77 : decode cX4_tick 77 = .ok (.iastore, 1) := by decide +kernel
theorem dX4_tick_78 : decode cX4_tick 78 = .ok (.aload_n 0, 1) := by decide +kernel
theorem dX4_tick_79 : decode cX4_tick 79 = .ok (.getfield 7, 3) := by decide +kernel
theorem dX4_tick_82 : decode cX4_tick 82 = .ok (.iconst 4, 1) := by decide +kernel
theorem dX4_tick_83 : decode cX4_tick 83 = .ok (.iload_n 3, 1) := by decide +kernel
theorem dX4_tick_84 : decode cX4_tick 84 = .ok (.iconst 1, 1) := by decide +kernel
theorem dX4_tick_85 : decode cX4_tick 85 = .ok (.if_icmp .le 17, 3) := by decide +kernel
theorem dX4_tick_88 : decode cX4_tick 88 = .ok (.iload_n 3, 1) := by decide +kernel
theorem dX4_tick_89 : decode cX4_tick 89 = .ok (.aload_n 0, 1) := by decide +kernel
theorem dX4_tick_90 : decode cX4_tick 90 = .ok (.getfield 7, 3) := by decide +kernel
theorem dX4_tick_93 : decode cX4_tick 93 = .ok (.iconst 4, 1) := by decide +kernel
theorem dX4_tick_94 : decode cX4_tick 94 = .ok (.iaload, 1) := by decide +kernel
theorem dX4_tick_95 : decode cX4_tick 95 = .ok (.if_icmp .le 7, 3) := by decide +kernel
theorem dX4_tick_98 : decode cX4_tick 98 = .ok (.iload_n 3, 1) := by decide +kernel
theorem dX4_tick_99 : decode cX4_tick 99 = .ok (.goto 9, 3) := by decide +kernel
theorem dX4_tick_102 : decode cX4_tick 102 = .ok (.aload_n 0, 1) := by decide +kernel
theorem dX4_tick_103 : decode cX4_tick 103 = .ok (.getfield 7, 3) := by decide +kernel
theorem dX4_tick_106 : decode cX4_tick 106 = .ok (.iconst 4, 1) := by decide +kernel
theorem dX4_tick_107 : decode cX4_tick 107 = .ok (.iaload, 1) := by decide +kernel
theorem dX4_tick_108 : decode cX4_tick 108 = .ok (.iastore, 1) := by decide +kernel
theorem dX4_tick_109 : decode cX4_tick 109 = .ok (.iload_n 2, 1) := by decide +kernel
theorem dX4_tick_110 : decode cX4_tick 110 = .ok (.ireturn, 1) := by decide +kernel
theorem dX4_goOn_0 : decode cX4_goOn 0 = .ok (.iconst 0, 1) := by decide +kernel
theorem dX4_goOn_1 : decode cX4_goOn 1 = .ok (.istore_n 2, 1) := by decide +kernel
theorem dX4_goOn_2 : decode cX4_goOn 2 = .ok (.iload_n 2, 1) := by decide +kernel
theorem dX4_goOn_3 : decode cX4_goOn 3 = .ok (.iload_n 1, 1) := by decide +kernel
theorem dX4_goOn_4 : decode cX4_goOn 4 = .ok (.if_icmp .ge 14, 3) := by decide +kernel
theorem dX4_goOn_7 : decode cX4_goOn 7 = .ok (.aload_n 0, 1) := by decide +kernel
theorem dX4_goOn_8 : decode cX4_goOn 8 = .ok (.invokevirtual 83, 3) := by decide +kernel
theorem dX4_goOn_11 : decode cX4_goOn 11 = .ok (.pop, 1) := by decide +kernel
theorem dX4_goOn_12 : decode cX4_goOn 12 = .ok (.iinc 2 1, 3) := by decide +kernel
theorem dX4_goOn_15 : decode cX4_goOn 15 = .ok (.goto (-13), 3) := by decide +kernel
theorem dX4_goOn_18 : decode cX4_goOn 18 = .ok (.return_, 1) := by decide +kernel
theorem dX4_pieceOf_0 : decode cX4_pieceOf 0 = .ok (.aload_n 0, 1) := by decide +kernel
theorem dX4_pieceOf_1 : decode cX4_pieceOf 1 = .ok (.invokevirtual 86, 3) := by decide +kernel
theorem dX4_pieceOf_4 : decode cX4_pieceOf 4 = .ok (.istore_n 2, 1) := by decide +kernel
theorem dX4_pieceOf_5 : decode cX4_pieceOf 5 = .ok (.iconst 1, 1) := by decide +kernel
theorem dX4_pieceOf_6 : decode cX4_pieceOf 6 = .ok (.iload_n 1, 1) := by decide +kernel
theorem dX4_pieceOf_7 : decode cX4_pieceOf 7 = .ok (.ishl, 1) := by decide +kernel
theorem dX4_pieceOf_8 : decode cX4_pieceOf 8 = .ok (.iload_n 2, 1) := by decide +kernel
theorem dX4_pieceOf_9 : decode cX4_pieceOf 9 = .ok (.iand, 1) := by decide +kernel
theorem dX4_pieceOf_10 : decode cX4_pieceOf 10 = .ok (.istore_n 3, 1) := by decide +kernel
theorem dX4_pieceOf_11 : decode cX4_pieceOf 11 = .ok (.iconst 0, 1) := by decide +kernel
theorem dX4_pieceOf_12 : decode cX4_pieceOf 12 = .ok (.istore 4, 2) := by decide +kernel
theorem dX4_pieceOf_14 : decode cX4_pieceOf 14 = .ok (.iload_n 3, 1) := by decide +kernel
theorem dX4_pieceOf_15 : decode cX4_pieceOf 15 = .ok (.iload 4, 2) := by decide +kernel
theorem dX4_pieceOf_17 : decode cX4_pieceOf 17 = .ok (.if_icmp .eq 52, 3) := by decide +kernel
theorem dX4_pieceOf_20 : decode cX4_pieceOf 20 = .ok (.iload_n 3, 1) := by decide +kernel
theorem dX4_pieceOf_21 : decode cX4_pieceOf 21 = .ok (.istore 4, 2) := by decide +kernel
theorem dX4_pieceOf_23 : decode cX4_pieceOf 23 = .ok (.iconst 0, 1) := by decide +kernel
theorem dX4_pieceOf_24 : decode cX4_pieceOf 24 = .ok (.istore 5, 2) := by decide +kernel
theorem dX4_pieceOf_26 : decode cX4_pieceOf 26 = .ok (.iload 5, 2) := by decide +kernel
theorem dX4_pieceOf_28 : decode cX4_pieceOf 28 = .ok (.bipush 16, 2) := by decide +kernel
theorem dX4_pieceOf_30 : decode cX4_pieceOf 30 = .ok (.if_icmp .ge 36, 3) := by decide +kernel
theorem dX4_pieceOf_33 : decode cX4_pieceOf 33 = .ok (.iload_n 3, 1) := by decide +kernel
theorem dX4_pieceOf_34 : decode cX4_pieceOf 34 = .ok (.iload 4, 2) := by decide +kernel
theorem dX4_pieceOf_36 : decode cX4_pieceOf 36 = .ok (.iload 5, 2) := by decide +kernel
theorem dX4_pieceOf_38 : decode cX4_pieceOf 38 = .ok (.invokestatic 66, 3) := by decide +kernel
theorem dX4_pieceOf_41 : decode cX4_pieceOf 41 = .ok (.ifCond .eq 16, 3) := by decide +kernel
theorem dX4_pieceOf_44 : decode cX4_pieceOf 44 = .ok (.aload_n 0, 1) := by decide +kernel
theorem dX4_pieceOf_45 : decode cX4_pieceOf 45 = .ok (.iload 5, 2) := by decide +kernel
theorem dX4_pieceOf_47 : decode cX4_pieceOf 47 = .ok (.bipush 8, 2) := by decide +kernel
theorem dX4_pieceOf_49 : decode cX4_pieceOf 49 = .ok (.invokevirtual 39, 3) := by decide +kernel
theorem dX4_pieceOf_52 : decode cX4_pieceOf 52 = .ok (.iload_n 2, 1) := by decide +kernel
theorem dX4_pieceOf_53 : decode cX4_pieceOf 53 = .ok (.iand, 1) := by decide +kernel
theorem dX4_pieceOf_54 : decode cX4_pieceOf 54 = .ok (.goto 4, 3) := by decide +kernel
theorem dX4_pieceOf_57 : decode cX4_pieceOf 57 = .ok (.iconst 0, 1) := by decide +kernel
theorem dX4_pieceOf_58 : decode cX4_pieceOf 58 = .ok (.ior, 1) := by decide +kernel
theorem dX4_pieceOf_59 : decode cX4_pieceOf 59 = .ok (.istore_n 3, 1) := by decide +kernel
theorem dX4_pieceOf_60 : decode cX4_pieceOf 60 = .ok (.iinc 5 1, 3) := by decide +kernel
theorem dX4_pieceOf_63 : decode cX4_pieceOf 63 = .ok (.goto (-37), 3) := by decide +kernel
theorem dX4_pieceOf_66 : decode cX4_pieceOf 66 = .ok (.goto (-52), 3) := by decide +kernel
theorem dX4_pieceOf_69 : decode cX4_pieceOf 69 = .ok (.iload_n 3, 1) := by decide +kernel
theorem dX4_pieceOf_70 : decode cX4_pieceOf 70 = .ok (.ireturn, 1) := by decide +kernel
theorem dX4_pieces_0 : decode cX4_pieces 0 = .ok (.iconst 0, 1) := by decide +kernel
theorem dX4_pieces_1 : decode cX4_pieces 1 = .ok (.istore_n 1, 1) := by decide +kernel
theorem dX4_pieces_2 : decode cX4_pieces 2 = .ok (.iconst 0, 1) := by decide +kernel
theorem dX4_pieces_3 : decode cX4_pieces 3 = .ok (.istore_n 2, 1) := by decide +kernel
theorem dX4_pieces_4 : decode cX4_pieces 4 = .ok (.iconst 0, 1) := by decide +kernel
theorem dX4_pieces_5 : decode cX4_pieces 5 = .ok (.istore_n 3, 1) := by decide +kernel
theorem dX4_pieces_6 : decode cX4_pieces 6 = .ok (.iload_n 3, 1) := by decide +kernel
theorem dX4_pieces_7 : decode cX4_pieces 7 = .ok (.bipush 16, 2) := by decide +kernel
theorem dX4_pieces_9 : decode cX4_pieces 9 = .ok (.if_icmp .ge 36, 3) := by decide +kernel
theorem dX4_pieces_12 : decode cX4_pieces 12 = .ok (.aload_n 0, 1) := by decide +kernel
theorem dX4_pieces_13 : decode cX4_pieces 13 = .ok (.iload_n 3, 1) := by decide +kernel
theorem dX4_pieces_14 : decode cX4_pieces 14 = .ok (.invokevirtual 58, 3) := by decide +kernel
theorem dX4_pieces_17 : decode cX4_pieces 17 = .ok (.ifCond .eq 22, 3) := by decide +kernel
theorem dX4_pieces_20 : decode cX4_pieces 20 = .ok (.iload_n 2, 1) := by decide +kernel
theorem dX4_pieces_21 : decode cX4_pieces 21 = .ok (.iload_n 3, 1) := by decide +kernel
theorem dX4_pieces_22 : decode cX4_pieces 22 = .ok (.invokestatic 66, 3) := by decide +kernel
theorem dX4_pieces_25 : decode cX4_pieces 25 = .ok (.ifCond .ne 14, 3) := by decide +kernel
theorem dX4_pieces_28 : decode cX4_pieces 28 = .ok (.iload_n 2, 1) := by decide +kernel
theorem dX4_pieces_29 : decode cX4_pieces 29 = .ok (.aload_n 0, 1) := by decide +kernel
theorem dX4_pieces_30 : decode cX4_pieces 30 = .ok (.iload_n 3, 1) := by decide +kernel
theorem dX4_pieces_31 : decode cX4_pieces 31 = .ok (.invokevirtual 89, 3) := by decide +kernel
theorem dX4_pieces_34 : decode cX4_pieces 34 = .ok (.ior, 1) := by decide +kernel
theorem dX4_pieces_35 : decode cX4_pieces 35 = .ok (.istore_n 2, 1) := by decide +kernel
theorem dX4_pieces_36 : decode cX4_pieces 36 = .ok (.iinc 1 1, 3) := by decide +kernel
theorem dX4_pieces_39 : decode cX4_pieces 39 = .ok (.iinc 3 1, 3) := by decide +kernel
theorem dX4_pieces_42 : decode cX4_pieces 42 = .ok (.goto (-36), 3) := by decide +kernel
theorem dX4_pieces_45 : decode cX4_pieces 45 = .ok (.iload_n 1, 1) := by decide +kernel
theorem dX4_pieces_46 : decode cX4_pieces 46 = .ok (.ireturn, 1) := by decide +kernel
theorem dX4_agreeing_0 : decode cX4_agreeing 0 = .ok (.iconst 0, 1) := by decide +kernel
theorem dX4_agreeing_1 : decode cX4_agreeing 1 = .ok (.istore_n 2, 1) := by decide +kernel
theorem dX4_agreeing_2 : decode cX4_agreeing 2 = .ok (.iconst 0, 1) := by decide +kernel
theorem dX4_agreeing_3 : decode cX4_agreeing 3 = .ok (.istore_n 3, 1) := by decide +kernel
theorem dX4_agreeing_4 : decode cX4_agreeing 4 = .ok (.iload_n 3, 1) := by decide +kernel
theorem dX4_agreeing_5 : decode cX4_agreeing 5 = .ok (.bipush 16, 2) := by decide +kernel
theorem dX4_agreeing_7 : decode cX4_agreeing 7 = .ok (.if_icmp .ge 50, 3) := by decide +kernel
theorem dX4_agreeing_10 : decode cX4_agreeing 10 = .ok (.iload_n 2, 1) := by decide +kernel
theorem dX4_agreeing_11 : decode cX4_agreeing 11 = .ok (.aload_n 0, 1) := by decide +kernel
theorem dX4_agreeing_12 : decode cX4_agreeing 12 = .ok (.iload_n 1, 1) := by decide +kernel
theorem dX4_agreeing_13 : decode cX4_agreeing 13 = .ok (.invokevirtual 58, 3) := by decide +kernel
theorem dX4_agreeing_16 : decode cX4_agreeing 16 = .ok (.ifCond .eq 32, 3) := by decide +kernel
theorem dX4_agreeing_19 : decode cX4_agreeing 19 = .ok (.aload_n 0, 1) := by decide +kernel
theorem dX4_agreeing_20 : decode cX4_agreeing 20 = .ok (.iload_n 3, 1) := by decide +kernel
theorem dX4_agreeing_21 : decode cX4_agreeing 21 = .ok (.invokevirtual 58, 3) := by decide +kernel
theorem dX4_agreeing_24 : decode cX4_agreeing 24 = .ok (.ifCond .eq 24, 3) := by decide +kernel
theorem dX4_agreeing_27 : decode cX4_agreeing 27 = .ok (.aload_n 0, 1) := by decide +kernel
theorem dX4_agreeing_28 : decode cX4_agreeing 28 = .ok (.iload_n 3, 1) := by decide +kernel
theorem dX4_agreeing_29 : decode cX4_agreeing 29 = .ok (.iconst 1, 1) := by decide +kernel
theorem dX4_agreeing_30 : decode cX4_agreeing 30 = .ok (.invokevirtual 39, 3) := by decide +kernel
theorem dX4_agreeing_33 : decode cX4_agreeing 33 = .ok (.aload_n 0, 1) := by decide +kernel
theorem dX4_agreeing_34 : decode cX4_agreeing 34 = .ok (.iload_n 1, 1) := by decide +kernel
theorem dX4_agreeing_35 : decode cX4_agreeing 35 = .ok (.iconst 1, 1) := by decide +kernel
theorem dX4_agreeing_36 : decode cX4_agreeing 36 = .ok (.invokevirtual 39, 3) := by decide +kernel
theorem dX4_agreeing_39 : decode cX4_agreeing 39 = .ok (.if_icmp .ne 9, 3) := by decide +kernel
theorem dX4_agreeing_42 : decode cX4_agreeing 42 = .ok (.iconst 1, 1) := by decide +kernel
theorem dX4_agreeing_43 : decode cX4_agreeing 43 = .ok (.iload_n 3, 1) := by decide +kernel
theorem dX4_agreeing_44 : decode cX4_agreeing 44 = .ok (.ishl, 1) := by decide +kernel
theorem dX4_agreeing_45 : decode cX4_agreeing 45 = .ok (.goto 4, 3) := by decide +kernel
theorem dX4_agreeing_48 : decode cX4_agreeing 48 = .ok (.iconst 0, 1) := by decide +kernel
theorem dX4_agreeing_49 : decode cX4_agreeing 49 = .ok (.ior, 1) := by decide +kernel
theorem dX4_agreeing_50 : decode cX4_agreeing 50 = .ok (.istore_n 2, 1) := by decide +kernel
theorem dX4_agreeing_51 : decode cX4_agreeing 51 = .ok (.iinc 3 1, 3) := by decide +kernel
theorem dX4_agreeing_54 : decode cX4_agreeing 54 = .ok (.goto (-50), 3) := by decide +kernel
theorem dX4_agreeing_57 : decode cX4_agreeing 57 = .ok (.iload_n 2, 1) := by decide +kernel
theorem dX4_agreeing_58 : decode cX4_agreeing 58 = .ok (.ireturn, 1) := by decide +kernel
theorem dX4_distance_0 : decode cX4_distance 0 = .ok (.aload_n 0, 1) := by decide +kernel
theorem dX4_distance_1 : decode cX4_distance 1 = .ok (.iload_n 1, 1) := by decide +kernel
theorem dX4_distance_2 : decode cX4_distance 2 = .ok (.iconst 1, 1) := by decide +kernel
theorem dX4_distance_3 : decode cX4_distance 3 = .ok (.invokevirtual 39, 3) := by decide +kernel
theorem dX4_distance_6 : decode cX4_distance 6 = .ok (.aload_n 0, 1) := by decide +kernel
theorem dX4_distance_7 : decode cX4_distance 7 = .ok (.iload_n 2, 1) := by decide +kernel
theorem dX4_distance_8 : decode cX4_distance 8 = .ok (.iconst 1, 1) := by decide +kernel
theorem dX4_distance_9 : decode cX4_distance 9 = .ok (.invokevirtual 39, 3) := by decide +kernel
theorem dX4_distance_12 : decode cX4_distance 12 = .ok (.isub, 1) := by decide +kernel
theorem dX4_distance_13 : decode cX4_distance 13 = .ok (.istore_n 3, 1) := by decide +kernel
theorem dX4_distance_14 : decode cX4_distance 14 = .ok (.iload_n 3, 1) := by decide +kernel
theorem dX4_distance_15 : decode cX4_distance 15 = .ok (.ifCond .ge 8, 3) := by decide +kernel
theorem dX4_distance_18 : decode cX4_distance 18 = .ok (.iload_n 3, 1) := by decide +kernel
theorem dX4_distance_19 : decode cX4_distance 19 = .ok (.ineg, 1) := by decide +kernel
theorem dX4_distance_20 : decode cX4_distance 20 = .ok (.goto 4, 3) := by decide +kernel
theorem dX4_distance_23 : decode cX4_distance 23 = .ok (.iload_n 3, 1) := by decide +kernel
theorem dX4_distance_24 : decode cX4_distance 24 = .ok (.istore_n 3, 1) := by decide +kernel
theorem dX4_distance_25 : decode cX4_distance 25 = .ok (.iload_n 3, 1) := by decide +kernel
theorem dX4_distance_26 : decode cX4_distance 26 = .ok (.aload_n 0, 1) := by decide +kernel
theorem dX4_distance_27 : decode cX4_distance 27 = .ok (.invokevirtual 70, 3) := by decide +kernel
theorem dX4_distance_30 : decode cX4_distance 30 = .ok (.iload_n 3, 1) := by decide +kernel
theorem dX4_distance_31 : decode cX4_distance 31 = .ok (.isub, 1) := by decide +kernel
theorem dX4_distance_32 : decode cX4_distance 32 = .ok (.if_icmp .ge 7, 3) := by decide +kernel
theorem dX4_distance_35 : decode cX4_distance 35 = .ok (.iload_n 3, 1) := by decide +kernel
theorem dX4_distance_36 : decode cX4_distance 36 = .ok (.goto 9, 3) := by decide +kernel
theorem dX4_distance_39 : decode cX4_distance 39 = .ok (.aload_n 0, 1) := by decide +kernel
theorem dX4_distance_40 : decode cX4_distance 40 = .ok (.invokevirtual 70, 3) := by decide +kernel
theorem dX4_distance_43 : decode cX4_distance 43 = .ok (.iload_n 3, 1) := by decide +kernel
theorem dX4_distance_44 : decode cX4_distance 44 = .ok (.isub, 1) := by decide +kernel
theorem dX4_distance_45 : decode cX4_distance 45 = .ok (.ireturn, 1) := by decide +kernel
theorem dX4_greatestDistance_0 : decode cX4_greatestDistance 0 = .ok (.aload_n 0, 1) := by decide +kernel
theorem dX4_greatestDistance_1 : decode cX4_greatestDistance 1 = .ok (.invokevirtual 86, 3) := by decide +kernel
theorem dX4_greatestDistance_4 : decode cX4_greatestDistance 4 = .ok (.ifCond .ne 8, 3) := by decide +kernel
theorem dX4_greatestDistance_7 : decode cX4_greatestDistance 7 = .ok (.bipush (-5), 2) := by decide +kernel
theorem dX4_greatestDistance_9 : decode cX4_greatestDistance 9 = .ok (.goto 4, 3) := by decide +kernel
theorem dX4_greatestDistance_12 : decode cX4_greatestDistance 12 = .ok (.iconst 0, 1) := by decide +kernel
theorem dX4_greatestDistance_13 : decode cX4_greatestDistance 13 = .ok (.istore_n 1, 1) := by decide +kernel
theorem dX4_greatestDistance_14 : decode cX4_greatestDistance 14 = .ok (.iconst 0, 1) := by decide +kernel
theorem dX4_greatestDistance_15 : decode cX4_greatestDistance 15 = .ok (.istore_n 2, 1) := by decide +kernel
theorem dX4_greatestDistance_16 : decode cX4_greatestDistance 16 = .ok (.iload_n 2, 1) := by decide +kernel
theorem dX4_greatestDistance_17 : decode cX4_greatestDistance 17 = .ok (.sipush 256, 3) := by decide +kernel
theorem dX4_greatestDistance_20 : decode cX4_greatestDistance 20 = .ok (.if_icmp .ge 55, 3) := by decide +kernel
theorem dX4_greatestDistance_23 : decode cX4_greatestDistance 23 = .ok (.aload_n 0, 1) := by decide +kernel
theorem dX4_greatestDistance_24 : decode cX4_greatestDistance 24 = .ok (.iload_n 2, 1) := by decide +kernel
theorem dX4_greatestDistance_25 : decode cX4_greatestDistance 25 = .ok (.bipush 16, 2) := by decide +kernel
theorem dX4_greatestDistance_27 : decode cX4_greatestDistance 27 = .ok (.idiv, 1) := by decide +kernel
theorem dX4_greatestDistance_28 : decode cX4_greatestDistance 28 = .ok (.invokevirtual 58, 3) := by decide +kernel
theorem dX4_greatestDistance_31 : decode cX4_greatestDistance 31 = .ok (.ifCond .eq 38, 3) := by decide +kernel
theorem dX4_greatestDistance_34 : decode cX4_greatestDistance 34 = .ok (.aload_n 0, 1) := by decide +kernel
theorem dX4_greatestDistance_35 : decode cX4_greatestDistance 35 = .ok (.iload_n 2, 1) := by decide +kernel
theorem dX4_greatestDistance_36 : decode cX4_greatestDistance 36 = .ok (.bipush 16, 2) := by decide +kernel
theorem dX4_greatestDistance_38 : decode cX4_greatestDistance 38 = .ok (.irem, 1) := by decide +kernel
theorem dX4_greatestDistance_39 : decode cX4_greatestDistance 39 = .ok (.invokevirtual 58, 3) := by decide +kernel
theorem dX4_greatestDistance_42 : decode cX4_greatestDistance 42 = .ok (.ifCond .eq 27, 3) := by decide +kernel
theorem dX4_greatestDistance_45 : decode cX4_greatestDistance 45 = .ok (.aload_n 0, 1) := by decide +kernel
theorem dX4_greatestDistance_46 : decode cX4_greatestDistance 46 = .ok (.iload_n 2, 1) := by decide +kernel
theorem dX4_greatestDistance_47 : decode cX4_greatestDistance 47 = .ok (.bipush 16, 2) := by decide +kernel
theorem dX4_greatestDistance_49 : decode cX4_greatestDistance 49 = .ok (.idiv, 1) := by decide +kernel
theorem dX4_greatestDistance_50 : decode cX4_greatestDistance 50 = .ok (.iload_n 2, 1) := by decide +kernel
theorem dX4_greatestDistance_51 : decode cX4_greatestDistance 51 = .ok (.bipush 16, 2) := by decide +kernel
theorem dX4_greatestDistance_53 : decode cX4_greatestDistance 53 = .ok (.irem, 1) := by decide +kernel
theorem dX4_greatestDistance_54 : decode cX4_greatestDistance 54 = .ok (.invokevirtual 92, 3) := by decide +kernel
theorem dX4_greatestDistance_57 : decode cX4_greatestDistance 57 = .ok (.istore_n 3, 1) := by decide +kernel
theorem dX4_greatestDistance_58 : decode cX4_greatestDistance 58 = .ok (.iload_n 3, 1) := by decide +kernel
theorem dX4_greatestDistance_59 : decode cX4_greatestDistance 59 = .ok (.iload_n 1, 1) := by decide +kernel
theorem dX4_greatestDistance_60 : decode cX4_greatestDistance 60 = .ok (.if_icmp .le 7, 3) := by decide +kernel
theorem dX4_greatestDistance_63 : decode cX4_greatestDistance 63 = .ok (.iload_n 3, 1) := by decide +kernel
theorem dX4_greatestDistance_64 : decode cX4_greatestDistance 64 = .ok (.goto 4, 3) := by decide +kernel
theorem dX4_greatestDistance_67 : decode cX4_greatestDistance 67 = .ok (.iload_n 1, 1) := by decide +kernel
theorem dX4_greatestDistance_68 : decode cX4_greatestDistance 68 = .ok (.istore_n 1, 1) := by decide +kernel
theorem dX4_greatestDistance_69 : decode cX4_greatestDistance 69 = .ok (.iinc 2 1, 3) := by decide +kernel
theorem dX4_greatestDistance_72 : decode cX4_greatestDistance 72 = .ok (.goto (-56), 3) := by decide +kernel
theorem dX4_greatestDistance_75 : decode cX4_greatestDistance 75 = .ok (.iload_n 1, 1) := by decide +kernel
theorem dX4_greatestDistance_76 : decode cX4_greatestDistance 76 = .ok (.ireturn, 1) := by decide +kernel
theorem dX4_isTogether_0 : decode cX4_isTogether 0 = .ok (.aload_n 0, 1) := by decide +kernel
theorem dX4_isTogether_1 : decode cX4_isTogether 1 = .ok (.invokevirtual 95, 3) := by decide +kernel
theorem dX4_isTogether_4 : decode cX4_isTogether 4 = .ok (.ifCond .ne 7, 3) := by decide +kernel
theorem dX4_isTogether_7 : decode cX4_isTogether 7 = .ok (.iconst 1, 1) := by decide +kernel
theorem dX4_isTogether_8 : decode cX4_isTogether 8 = .ok (.goto 4, 3) := by decide +kernel
theorem dX4_isTogether_11 : decode cX4_isTogether 11 = .ok (.iconst 0, 1) := by decide +kernel
theorem dX4_isTogether_12 : decode cX4_isTogether 12 = .ok (.ireturn, 1) := by decide +kernel
theorem dX4_come_0 : decode cX4_come 0 = .ok (.iload_n 1, 1) := by decide +kernel
theorem dX4_come_1 : decode cX4_come 1 = .ok (.iconst 0, 1) := by decide +kernel
theorem dX4_come_2 : decode cX4_come 2 = .ok (.aload_n 0, 1) := by decide +kernel
theorem dX4_come_3 : decode cX4_come 3 = .ok (.getfield 7, 3) := by decide +kernel
theorem dX4_come_6 : decode cX4_come 6 = .ok (.iconst 5, 1) := by decide +kernel
theorem dX4_come_7 : decode cX4_come 7 = .ok (.iaload, 1) := by decide +kernel
theorem dX4_come_8 : decode cX4_come 8 = .ok (.iconst 1, 1) := by decide +kernel
theorem dX4_come_9 : decode cX4_come 9 = .ok (.isub, 1) := by decide +kernel
theorem dX4_come_10 : decode cX4_come 10 = .ok (.invokestatic 35, 3) := by decide +kernel
theorem dX4_come_13 : decode cX4_come 13 = .ok (.ifCond .eq 15, 3) := by decide +kernel
theorem dX4_come_16 : decode cX4_come 16 = .ok (.iload_n 2, 1) := by decide +kernel
theorem dX4_come_17 : decode cX4_come 17 = .ok (.bipush 50, 2) := by decide +kernel
theorem dX4_come_19 : decode cX4_come 19 = .ok (.sipush 150, 3) := by decide +kernel
theorem dX4_come_22 : decode cX4_come 22 = .ok (.invokestatic 35, 3) := by decide +kernel
theorem dX4_come_25 : decode cX4_come 25 = .ok (.ifCond .ne 6, 3) := by decide +kernel
theorem dX4_come_28 : decode cX4_come 28 = .ok (.bipush (-2), 2) := by decide +kernel
theorem dX4_come_30 : decode cX4_come 30 = .ok (.ireturn, 1) := by decide +kernel
theorem dX4_come_31 : decode cX4_come 31 = .ok (.iconst 0, 1) := by decide +kernel
theorem dX4_come_32 : decode cX4_come 32 = .ok (.istore_n 3, 1) := by decide +kernel
theorem dX4_come_33 : decode cX4_come 33 = .ok (.iload_n 3, 1) := by decide +kernel
theorem dX4_come_34 : decode cX4_come 34 = .ok (.bipush 16, 2) := by decide +kernel
theorem dX4_come_36 : decode cX4_come 36 = .ok (.if_icmp .ge 19, 3) := by decide +kernel
theorem dX4_come_39 : decode cX4_come 39 = .ok (.aload_n 0, 1) := by decide +kernel
theorem dX4_come_40 : decode cX4_come 40 = .ok (.iload_n 3, 1) := by decide +kernel
theorem dX4_come_41 : decode cX4_come 41 = .ok (.iconst 0, 1) := by decide +kernel
theorem dX4_come_42 : decode cX4_come 42 = .ok (.invokevirtual 39, 3) := by decide +kernel
theorem dX4_come_45 : decode cX4_come 45 = .ok (.iconst 1, 1) := by decide +kernel
theorem dX4_come_46 : decode cX4_come 46 = .ok (.if_icmp .ne 9, 3) := by decide +kernel
theorem dX4_come_49 : decode cX4_come 49 = .ok (.iinc 3 1, 3) := by decide +kernel
theorem dX4_come_52 : decode cX4_come 52 = .ok (.goto (-19), 3) := by decide +kernel
theorem dX4_come_55 : decode cX4_come 55 = .ok (.iload_n 3, 1) := by decide +kernel
theorem dX4_come_56 : decode cX4_come 56 = .ok (.bipush 16, 2) := by decide +kernel
theorem dX4_come_58 : decode cX4_come 58 = .ok (.if_icmp .ne 6, 3) := by decide +kernel
theorem dX4_come_61 : decode cX4_come 61 = .ok (.bipush (-3), 2) := by decide +kernel
theorem dX4_come_63 : decode cX4_come 63 = .ok (.ireturn, 1) := by decide +kernel
theorem dX4_come_64 : decode cX4_come 64 = .ok (.aload_n 0, 1) := by decide +kernel
theorem dX4_come_65 : decode cX4_come 65 = .ok (.invokevirtual 98, 3) := by decide +kernel
theorem dX4_come_68 : decode cX4_come 68 = .ok (.aload_n 0, 1) := by decide +kernel
theorem dX4_come_69 : decode cX4_come 69 = .ok (.iload_n 3, 1) := by decide +kernel
theorem dX4_come_70 : decode cX4_come 70 = .ok (.bipush 100, 2) := by decide +kernel
theorem dX4_come_72 : decode cX4_come 72 = .ok (.iload_n 1, 1) := by decide +kernel
theorem dX4_come_73 : decode cX4_come 73 = .ok (.imul, 1) := by decide +kernel
theorem dX4_come_74 : decode cX4_come 74 = .ok (.iload_n 2, 1) := by decide +kernel
theorem dX4_come_75 : decode cX4_come 75 = .ok (.invokevirtual 101, 3) := by decide +kernel
theorem dX4_come_78 : decode cX4_come 78 = .ok (.iload_n 3, 1) := by decide +kernel
theorem dX4_come_79 : decode cX4_come 79 = .ok (.ireturn, 1) := by decide +kernel
theorem dX4_lay_0 : decode cX4_lay 0 = .ok (.iconst 0, 1) := by decide +kernel
theorem dX4_lay_1 : decode cX4_lay 1 = .ok (.istore 4, 2) := by decide +kernel
theorem dX4_lay_3 : decode cX4_lay 3 = .ok (.iload 4, 2) := by decide +kernel
theorem dX4_lay_5 : decode cX4_lay 5 = .ok (.bipush 9, 2) := by decide +kernel
theorem dX4_lay_7 : decode cX4_lay 7 = .ok (.if_icmp .ge 17, 3) := by decide +kernel
theorem dX4_lay_10 : decode cX4_lay 10 = .ok (.aload_n 0, 1) := by decide +kernel
theorem dX4_lay_11 : decode cX4_lay 11 = .ok (.iload_n 1, 1) := by decide +kernel
theorem dX4_lay_12 : decode cX4_lay 12 = .ok (.iload 4, 2) := by decide +kernel
theorem dX4_lay_14 : decode cX4_lay 14 = .ok (.iconst 0, 1) := by decide +kernel
theorem dX4_lay_15 : decode cX4_lay 15 = .ok (.invokevirtual 62, 3) := by decide +kernel
theorem dX4_lay_18 : decode cX4_lay 18 = .ok (.iinc 4 1, 3) := by decide +kernel
theorem dX4_lay_21 : decode cX4_lay 21 = .ok (.goto (-18), 3) := by decide +kernel
theorem dX4_lay_24 : decode cX4_lay 24 = .ok (.aload_n 0, 1) := by decide +kernel
theorem dX4_lay_25 : decode cX4_lay 25 = .ok (.iload_n 1, 1) := by decide +kernel
theorem dX4_lay_26 : decode cX4_lay 26 = .ok (.iconst 0, 1) := by decide +kernel
theorem dX4_lay_27 : decode cX4_lay 27 = .ok (.iconst 1, 1) := by decide +kernel
theorem dX4_lay_28 : decode cX4_lay 28 = .ok (.invokevirtual 62, 3) := by decide +kernel
theorem dX4_lay_31 : decode cX4_lay 31 = .ok (.aload_n 0, 1) := by decide +kernel
theorem dX4_lay_32 : decode cX4_lay 32 = .ok (.iload_n 1, 1) := by decide +kernel
theorem dX4_lay_33 : decode cX4_lay 33 = .ok (.iconst 1, 1) := by decide +kernel
theorem dX4_lay_34 : decode cX4_lay 34 = .ok (.iload_n 2, 1) := by decide +kernel
theorem dX4_lay_35 : decode cX4_lay 35 = .ok (.aload_n 0, 1) := by decide +kernel
theorem dX4_lay_36 : decode cX4_lay 36 = .ok (.invokevirtual 70, 3) := by decide +kernel
theorem dX4_lay_39 : decode cX4_lay 39 = .ok (.if_icmp .ge 7, 3) := by decide +kernel
theorem dX4_lay_42 : decode cX4_lay 42 = .ok (.iload_n 2, 1) := by decide +kernel
theorem dX4_lay_43 : decode cX4_lay 43 = .ok (.goto 9, 3) := by decide +kernel
theorem dX4_lay_46 : decode cX4_lay 46 = .ok (.aload_n 0, 1) := by decide +kernel
theorem dX4_lay_47 : decode cX4_lay 47 = .ok (.invokevirtual 70, 3) := by decide +kernel
theorem dX4_lay_50 : decode cX4_lay 50 = .ok (.iconst 1, 1) := by decide +kernel
theorem dX4_lay_51 : decode cX4_lay 51 = .ok (.isub, 1) := by decide +kernel
theorem dX4_lay_52 : decode cX4_lay 52 = .ok (.invokevirtual 62, 3) := by decide +kernel
theorem dX4_lay_55 : decode cX4_lay 55 = .ok (.aload_n 0, 1) := by decide +kernel
theorem dX4_lay_56 : decode cX4_lay 56 = .ok (.iload_n 1, 1) := by decide +kernel
theorem dX4_lay_57 : decode cX4_lay 57 = .ok (.iconst 2, 1) := by decide +kernel
theorem dX4_lay_58 : decode cX4_lay 58 = .ok (.iload_n 3, 1) := by decide +kernel
theorem dX4_lay_59 : decode cX4_lay 59 = .ok (.invokevirtual 62, 3) := by decide +kernel
theorem dX4_lay_62 : decode cX4_lay 62 = .ok (.aload_n 0, 1) := by decide +kernel
theorem dX4_lay_63 : decode cX4_lay 63 = .ok (.iload_n 1, 1) := by decide +kernel
theorem dX4_lay_64 : decode cX4_lay 64 = .ok (.iconst 3, 1) := by decide +kernel
theorem dX4_lay_65 : decode cX4_lay 65 = .ok (.iconst 1, 1) := by decide +kernel
theorem dX4_lay_66 : decode cX4_lay 66 = .ok (.invokevirtual 62, 3) := by decide +kernel
theorem dX4_lay_69 : decode cX4_lay 69 = .ok (.return_, 1) := by decide +kernel
theorem dX4_connect_0 : decode cX4_connect 0 = .ok (.aload_n 0, 1) := by decide +kernel
theorem dX4_connect_1 : decode cX4_connect 1 = .ok (.iload_n 1, 1) := by decide +kernel
theorem dX4_connect_2 : decode cX4_connect 2 = .ok (.bipush 8, 2) := by decide +kernel
theorem dX4_connect_4 : decode cX4_connect 4 = .ok (.iload_n 3, 1) := by decide +kernel
theorem dX4_connect_5 : decode cX4_connect 5 = .ok (.ifCond .eq 17, 3) := by decide +kernel
theorem dX4_connect_8 : decode cX4_connect 8 = .ok (.aload_n 0, 1) := by decide +kernel
theorem dX4_connect_9 : decode cX4_connect 9 = .ok (.iload_n 1, 1) := by decide +kernel
theorem dX4_connect_10 : decode cX4_connect 10 = .ok (.bipush 8, 2) := by decide +kernel
theorem dX4_connect_12 : decode cX4_connect 12 = .ok (.invokevirtual 39, 3) := by decide +kernel
theorem dX4_connect_15 : decode cX4_connect 15 = .ok (.iconst 1, 1) := by decide +kernel
theorem dX4_connect_16 : decode cX4_connect 16 = .ok (.iload_n 2, 1) := by decide +kernel
theorem dX4_connect_17 : decode cX4_connect 17 = .ok (.ishl, 1) := by decide +kernel
theorem dX4_connect_18 : decode cX4_connect 18 = .ok (.ior, 1) := by decide +kernel
theorem dX4_connect_19 : decode cX4_connect 19 = .ok (.goto 16, 3) := by decide +kernel
theorem dX4_connect_22 : decode cX4_connect 22 = .ok (.aload_n 0, 1) := by decide +kernel
theorem dX4_connect_23 : decode cX4_connect 23 = .ok (.iload_n 1, 1) := by decide +kernel
theorem dX4_connect_24 : decode cX4_connect 24 = .ok (.bipush 8, 2) := by decide +kernel
theorem dX4_connect_26 : decode cX4_connect 26 = .ok (.invokevirtual 39, 3) := by decide +kernel
theorem dX4_connect_29 : decode cX4_connect 29 = .ok (.iconst 1, 1) := by decide +kernel
theorem dX4_connect_30 : decode cX4_connect 30 = .ok (.iload_n 2, 1) := by decide +kernel
theorem dX4_connect_31 : decode cX4_connect 31 = .ok (.ishl, 1) := by decide +kernel
theorem dX4_connect_32 : decode cX4_connect 32 = .ok (.iconst (-1), 1) := by decide +kernel
theorem dX4_connect_33 : decode cX4_connect 33 = .ok (.ixor, 1) := by decide +kernel
theorem dX4_connect_34 : decode cX4_connect 34 = .ok (.iand, 1) := by decide +kernel
theorem dX4_connect_35 : decode cX4_connect 35 = .ok (.invokevirtual 62, 3) := by decide +kernel
theorem dX4_connect_38 : decode cX4_connect 38 = .ok (.aload_n 0, 1) := by decide +kernel
theorem dX4_connect_39 : decode cX4_connect 39 = .ok (.iload_n 2, 1) := by decide +kernel
theorem dX4_connect_40 : decode cX4_connect 40 = .ok (.bipush 8, 2) := by decide +kernel
theorem dX4_connect_42 : decode cX4_connect 42 = .ok (.iload_n 3, 1) := by decide +kernel
theorem dX4_connect_43 : decode cX4_connect 43 = .ok (.ifCond .eq 17, 3) := by decide +kernel
theorem dX4_connect_46 : decode cX4_connect 46 = .ok (.aload_n 0, 1) := by decide +kernel
theorem dX4_connect_47 : decode cX4_connect 47 = .ok (.iload_n 2, 1) := by decide +kernel
theorem dX4_connect_48 : decode cX4_connect 48 = .ok (.bipush 8, 2) := by decide +kernel
theorem dX4_connect_50 : decode cX4_connect 50 = .ok (.invokevirtual 39, 3) := by decide +kernel
theorem dX4_connect_53 : decode cX4_connect 53 = .ok (.iconst 1, 1) := by decide +kernel
theorem dX4_connect_54 : decode cX4_connect 54 = .ok (.iload_n 1, 1) := by decide +kernel
theorem dX4_connect_55 : decode cX4_connect 55 = .ok (.ishl, 1) := by decide +kernel
theorem dX4_connect_56 : decode cX4_connect 56 = .ok (.ior, 1) := by decide +kernel
theorem dX4_connect_57 : decode cX4_connect 57 = .ok (.goto 16, 3) := by decide +kernel
theorem dX4_connect_60 : decode cX4_connect 60 = .ok (.aload_n 0, 1) := by decide +kernel
theorem dX4_connect_61 : decode cX4_connect 61 = .ok (.iload_n 2, 1) := by decide +kernel
theorem dX4_connect_62 : decode cX4_connect 62 = .ok (.bipush 8, 2) := by decide +kernel
theorem dX4_connect_64 : decode cX4_connect 64 = .ok (.invokevirtual 39, 3) := by decide +kernel
theorem dX4_connect_67 : decode cX4_connect 67 = .ok (.iconst 1, 1) := by decide +kernel
theorem dX4_connect_68 : decode cX4_connect 68 = .ok (.iload_n 1, 1) := by decide +kernel
theorem dX4_connect_69 : decode cX4_connect 69 = .ok (.ishl, 1) := by decide +kernel
theorem dX4_connect_70 : decode cX4_connect 70 = .ok (.iconst (-1), 1) := by decide +kernel
theorem dX4_connect_71 : decode cX4_connect 71 = .ok (.ixor, 1) := by decide +kernel
theorem dX4_connect_72 : decode cX4_connect 72 = .ok (.iand, 1) := by decide +kernel
theorem dX4_connect_73 : decode cX4_connect 73 = .ok (.invokevirtual 62, 3) := by decide +kernel
theorem dX4_connect_76 : decode cX4_connect 76 = .ok (.return_, 1) := by decide +kernel
theorem dX4_goAway_0 : decode cX4_goAway 0 = .ok (.aload_n 0, 1) := by decide +kernel
theorem dX4_goAway_1 : decode cX4_goAway 1 = .ok (.iload_n 1, 1) := by decide +kernel
theorem dX4_goAway_2 : decode cX4_goAway 2 = .ok (.invokevirtual 104, 3) := by decide +kernel
theorem dX4_goAway_5 : decode cX4_goAway 5 = .ok (.ifCond .ne 5, 3) := by decide +kernel
theorem dX4_goAway_8 : decode cX4_goAway 8 = .ok (.iconst (-1), 1) := by decide +kernel
theorem dX4_goAway_9 : decode cX4_goAway 9 = .ok (.ireturn, 1) := by decide +kernel
theorem dX4_goAway_10 : decode cX4_goAway 10 = .ok (.aload_n 0, 1) := by decide +kernel
theorem dX4_goAway_11 : decode cX4_goAway 11 = .ok (.invokevirtual 98, 3) := by decide +kernel
theorem dX4_goAway_14 : decode cX4_goAway 14 = .ok (.aload_n 0, 1) := by decide +kernel
theorem dX4_goAway_15 : decode cX4_goAway 15 = .ok (.iload_n 1, 1) := by decide +kernel
theorem dX4_goAway_16 : decode cX4_goAway 16 = .ok (.bipush 8, 2) := by decide +kernel
theorem dX4_goAway_18 : decode cX4_goAway 18 = .ok (.invokevirtual 39, 3) := by decide +kernel
theorem dX4_goAway_21 : decode cX4_goAway 21 = .ok (.invokestatic 55, 3) := by decide +kernel
theorem dX4_goAway_24 : decode cX4_goAway 24 = .ok (.istore_n 2, 1) := by decide +kernel
theorem dX4_goAway_25 : decode cX4_goAway 25 = .ok (.iconst 0, 1) := by decide +kernel
theorem dX4_goAway_26 : decode cX4_goAway 26 = .ok (.istore_n 3, 1) := by decide +kernel
theorem dX4_goAway_27 : decode cX4_goAway 27 = .ok (.iload_n 3, 1) := by decide +kernel
theorem dX4_goAway_28 : decode cX4_goAway 28 = .ok (.bipush 16, 2) := by decide +kernel
theorem dX4_goAway_30 : decode cX4_goAway 30 = .ok (.if_icmp .ge 29, 3) := by decide +kernel
theorem dX4_goAway_33 : decode cX4_goAway 33 = .ok (.aload_n 0, 1) := by decide +kernel
theorem dX4_goAway_34 : decode cX4_goAway 34 = .ok (.iload_n 3, 1) := by decide +kernel
theorem dX4_goAway_35 : decode cX4_goAway 35 = .ok (.bipush 8, 2) := by decide +kernel
theorem dX4_goAway_37 : decode cX4_goAway 37 = .ok (.aload_n 0, 1) := by decide +kernel
theorem dX4_goAway_38 : decode cX4_goAway 38 = .ok (.iload_n 3, 1) := by decide +kernel
theorem dX4_goAway_39 : decode cX4_goAway 39 = .ok (.bipush 8, 2) := by decide +kernel
theorem dX4_goAway_41 : decode cX4_goAway 41 = .ok (.invokevirtual 39, 3) := by decide +kernel
theorem dX4_goAway_44 : decode cX4_goAway 44 = .ok (.iconst 1, 1) := by decide +kernel
theorem dX4_goAway_45 : decode cX4_goAway 45 = .ok (.iload_n 1, 1) := by decide +kernel
theorem dX4_goAway_46 : decode cX4_goAway 46 = .ok (.ishl, 1) := by decide +kernel
theorem dX4_goAway_47 : decode cX4_goAway 47 = .ok (.iconst (-1), 1) := by decide +kernel
theorem dX4_goAway_48 : decode cX4_goAway 48 = .ok (.ixor, 1) := by decide +kernel
theorem dX4_goAway_49 : decode cX4_goAway 49 = .ok (.iand, 1) := by decide +kernel
theorem dX4_goAway_50 : decode cX4_goAway 50 = .ok (.invokevirtual 62, 3) := by decide +kernel
theorem dX4_goAway_53 : decode cX4_goAway 53 = .ok (.iinc 3 1, 3) := by decide +kernel
theorem dX4_goAway_56 : decode cX4_goAway 56 = .ok (.goto (-29), 3) := by decide +kernel
theorem dX4_goAway_59 : decode cX4_goAway 59 = .ok (.aload_n 0, 1) := by decide +kernel
theorem dX4_goAway_60 : decode cX4_goAway 60 = .ok (.iload_n 1, 1) := by decide +kernel
theorem dX4_goAway_61 : decode cX4_goAway 61 = .ok (.iconst 0, 1) := by decide +kernel
theorem dX4_goAway_62 : decode cX4_goAway 62 = .ok (.iconst 0, 1) := by decide +kernel
theorem dX4_goAway_63 : decode cX4_goAway 63 = .ok (.invokevirtual 62, 3) := by decide +kernel
theorem dX4_goAway_66 : decode cX4_goAway 66 = .ok (.aload_n 0, 1) := by decide +kernel
theorem dX4_goAway_67 : decode cX4_goAway 67 = .ok (.iload_n 1, 1) := by decide +kernel
theorem dX4_goAway_68 : decode cX4_goAway 68 = .ok (.bipush 8, 2) := by decide +kernel
theorem dX4_goAway_70 : decode cX4_goAway 70 = .ok (.iconst 0, 1) := by decide +kernel
theorem dX4_goAway_71 : decode cX4_goAway 71 = .ok (.invokevirtual 62, 3) := by decide +kernel
theorem dX4_goAway_74 : decode cX4_goAway 74 = .ok (.iload_n 2, 1) := by decide +kernel
theorem dX4_goAway_75 : decode cX4_goAway 75 = .ok (.ireturn, 1) := by decide +kernel
theorem dX4_turn_0 : decode cX4_turn 0 = .ok (.aload_n 0, 1) := by decide +kernel
theorem dX4_turn_1 : decode cX4_turn 1 = .ok (.iload_n 1, 1) := by decide +kernel
theorem dX4_turn_2 : decode cX4_turn 2 = .ok (.invokevirtual 104, 3) := by decide +kernel
theorem dX4_turn_5 : decode cX4_turn 5 = .ok (.ifCond .ne 5, 3) := by decide +kernel
theorem dX4_turn_8 : decode cX4_turn 8 = .ok (.iconst (-1), 1) := by decide +kernel
theorem dX4_turn_9 : decode cX4_turn 9 = .ok (.ireturn, 1) := by decide +kernel
theorem dX4_turn_10 : decode cX4_turn 10 = .ok (.aload_n 0, 1) := by decide +kernel
theorem dX4_turn_11 : decode cX4_turn 11 = .ok (.iload_n 1, 1) := by decide +kernel
theorem dX4_turn_12 : decode cX4_turn 12 = .ok (.invokevirtual 58, 3) := by decide +kernel
theorem dX4_turn_15 : decode cX4_turn 15 = .ok (.iload_n 2, 1) := by decide +kernel
theorem dX4_turn_16 : decode cX4_turn 16 = .ok (.if_icmp .ne 6, 3) := by decide +kernel
theorem dX4_turn_19 : decode cX4_turn 19 = .ok (.bipush (-5), 2) := by decide +kernel
theorem dX4_turn_21 : decode cX4_turn 21 = .ok (.ireturn, 1) := by decide +kernel
theorem dX4_turn_22 : decode cX4_turn 22 = .ok (.aload_n 0, 1) := by decide +kernel
theorem dX4_turn_23 : decode cX4_turn 23 = .ok (.invokevirtual 98, 3) := by decide +kernel
theorem dX4_turn_26 : decode cX4_turn 26 = .ok (.aload_n 0, 1) := by decide +kernel
theorem dX4_turn_27 : decode cX4_turn 27 = .ok (.iload_n 1, 1) := by decide +kernel
theorem dX4_turn_28 : decode cX4_turn 28 = .ok (.iconst 3, 1) := by decide +kernel
theorem dX4_turn_29 : decode cX4_turn 29 = .ok (.iload_n 2, 1) := by decide +kernel
theorem dX4_turn_30 : decode cX4_turn 30 = .ok (.ifCond .eq 7, 3) := by decide +kernel
theorem dX4_turn_33 : decode cX4_turn 33 = .ok (.iconst 1, 1) := by decide +kernel
theorem dX4_turn_34 : decode cX4_turn 34 = .ok (.goto 4, 3) := by decide +kernel
theorem dX4_turn_37 : decode cX4_turn 37 = .ok (.iconst 0, 1) := by decide +kernel
theorem dX4_turn_38 : decode cX4_turn 38 = .ok (.invokevirtual 62, 3) := by decide +kernel
theorem dX4_turn_41 : decode cX4_turn 41 = .ok (.aload_n 0, 1) := by decide +kernel
theorem dX4_turn_42 : decode cX4_turn 42 = .ok (.invokevirtual 86, 3) := by decide +kernel
theorem dX4_turn_45 : decode cX4_turn 45 = .ok (.invokestatic 55, 3) := by decide +kernel
theorem dX4_turn_48 : decode cX4_turn 48 = .ok (.ireturn, 1) := by decide +kernel
theorem dX4_link_0 : decode cX4_link 0 = .ok (.aload_n 0, 1) := by decide +kernel
theorem dX4_link_1 : decode cX4_link 1 = .ok (.iload_n 1, 1) := by decide +kernel
theorem dX4_link_2 : decode cX4_link 2 = .ok (.invokevirtual 104, 3) := by decide +kernel
theorem dX4_link_5 : decode cX4_link 5 = .ok (.ifCond .eq 11, 3) := by decide +kernel
theorem dX4_link_8 : decode cX4_link 8 = .ok (.aload_n 0, 1) := by decide +kernel
theorem dX4_link_9 : decode cX4_link 9 = .ok (.iload_n 2, 1) := by decide +kernel
theorem dX4_link_10 : decode cX4_link 10 = .ok (.invokevirtual 104, 3) := by decide +kernel
theorem dX4_link_13 : decode cX4_link 13 = .ok (.ifCond .ne 5, 3) := by decide +kernel
theorem dX4_link_16 : decode cX4_link 16 = .ok (.iconst (-1), 1) := by decide +kernel
theorem dX4_link_17 : decode cX4_link 17 = .ok (.ireturn, 1) := by decide +kernel
theorem dX4_link_18 : decode cX4_link 18 = .ok (.iload_n 1, 1) := by decide +kernel
theorem dX4_link_19 : decode cX4_link 19 = .ok (.iload_n 2, 1) := by decide +kernel
theorem dX4_link_20 : decode cX4_link 20 = .ok (.if_icmp .ne 6, 3) := by decide +kernel
theorem dX4_link_23 : decode cX4_link 23 = .ok (.bipush (-2), 2) := by decide +kernel
theorem dX4_link_25 : decode cX4_link 25 = .ok (.ireturn, 1) := by decide +kernel
theorem dX4_link_26 : decode cX4_link 26 = .ok (.aload_n 0, 1) := by decide +kernel
theorem dX4_link_27 : decode cX4_link 27 = .ok (.iload_n 1, 1) := by decide +kernel
theorem dX4_link_28 : decode cX4_link 28 = .ok (.bipush 8, 2) := by decide +kernel
theorem dX4_link_30 : decode cX4_link 30 = .ok (.invokevirtual 39, 3) := by decide +kernel
theorem dX4_link_33 : decode cX4_link 33 = .ok (.iload_n 2, 1) := by decide +kernel
theorem dX4_link_34 : decode cX4_link 34 = .ok (.invokestatic 66, 3) := by decide +kernel
theorem dX4_link_37 : decode cX4_link 37 = .ok (.iload_n 3, 1) := by decide +kernel
theorem dX4_link_38 : decode cX4_link 38 = .ok (.if_icmp .ne 6, 3) := by decide +kernel
theorem dX4_link_41 : decode cX4_link 41 = .ok (.bipush (-5), 2) := by decide +kernel
theorem dX4_link_43 : decode cX4_link 43 = .ok (.ireturn, 1) := by decide +kernel
theorem dX4_link_44 : decode cX4_link 44 = .ok (.aload_n 0, 1) := by decide +kernel
theorem dX4_link_45 : decode cX4_link 45 = .ok (.invokevirtual 98, 3) := by decide +kernel
theorem dX4_link_48 : decode cX4_link 48 = .ok (.aload_n 0, 1) := by decide +kernel
theorem dX4_link_49 : decode cX4_link 49 = .ok (.iload_n 1, 1) := by decide +kernel
theorem dX4_link_50 : decode cX4_link 50 = .ok (.iload_n 2, 1) := by decide +kernel
theorem dX4_link_51 : decode cX4_link 51 = .ok (.iload_n 3, 1) := by decide +kernel
theorem dX4_link_52 : decode cX4_link 52 = .ok (.invokevirtual 107, 3) := by decide +kernel
theorem dX4_link_55 : decode cX4_link 55 = .ok (.aload_n 0, 1) := by decide +kernel
theorem dX4_link_56 : decode cX4_link 56 = .ok (.invokevirtual 111, 3) := by decide +kernel
theorem dX4_link_59 : decode cX4_link 59 = .ok (.ireturn, 1) := by decide +kernel
theorem dX4_tune_0 : decode cX4_tune 0 = .ok (.aload_n 0, 1) := by decide +kernel
theorem dX4_tune_1 : decode cX4_tune 1 = .ok (.iload_n 1, 1) := by decide +kernel
theorem dX4_tune_2 : decode cX4_tune 2 = .ok (.invokevirtual 104, 3) := by decide +kernel
theorem dX4_tune_5 : decode cX4_tune 5 = .ok (.ifCond .ne 5, 3) := by decide +kernel
theorem dX4_tune_8 : decode cX4_tune 8 = .ok (.iconst (-1), 1) := by decide +kernel
theorem dX4_tune_9 : decode cX4_tune 9 = .ok (.ireturn, 1) := by decide +kernel
theorem dX4_tune_10 : decode cX4_tune 10 = .ok (.iload_n 2, 1) := by decide +kernel
theorem dX4_tune_11 : decode cX4_tune 11 = .ok (.iconst 0, 1) := by decide +kernel
theorem dX4_tune_12 : decode cX4_tune 12 = .ok (.aload_n 0, 1) := by decide +kernel
theorem dX4_tune_13 : decode cX4_tune 13 = .ok (.getfield 7, 3) := by decide +kernel
theorem dX4_tune_16 : decode cX4_tune 16 = .ok (.iconst 5, 1) := by decide +kernel
theorem dX4_tune_17 : decode cX4_tune 17 = .ok (.iaload, 1) := by decide +kernel
theorem dX4_tune_18 : decode cX4_tune 18 = .ok (.iconst 1, 1) := by decide +kernel
theorem dX4_tune_19 : decode cX4_tune 19 = .ok (.isub, 1) := by decide +kernel
theorem dX4_tune_20 : decode cX4_tune 20 = .ok (.invokestatic 35, 3) := by decide +kernel
theorem dX4_tune_23 : decode cX4_tune 23 = .ok (.ifCond .eq 15, 3) := by decide +kernel
theorem dX4_tune_26 : decode cX4_tune 26 = .ok (.iload_n 3, 1) := by decide +kernel
theorem dX4_tune_27 : decode cX4_tune 27 = .ok (.bipush 50, 2) := by decide +kernel
theorem dX4_tune_29 : decode cX4_tune 29 = .ok (.sipush 150, 3) := by decide +kernel
theorem dX4_tune_32 : decode cX4_tune 32 = .ok (.invokestatic 35, 3) := by decide +kernel
theorem dX4_tune_35 : decode cX4_tune 35 = .ok (.ifCond .ne 6, 3) := by decide +kernel
theorem dX4_tune_38 : decode cX4_tune 38 = .ok (.bipush (-2), 2) := by decide +kernel
theorem dX4_tune_40 : decode cX4_tune 40 = .ok (.ireturn, 1) := by decide +kernel
theorem dX4_tune_41 : decode cX4_tune 41 = .ok (.aload_n 0, 1) := by decide +kernel
theorem dX4_tune_42 : decode cX4_tune 42 = .ok (.invokevirtual 98, 3) := by decide +kernel
theorem dX4_tune_45 : decode cX4_tune 45 = .ok (.aload_n 0, 1) := by decide +kernel
theorem dX4_tune_46 : decode cX4_tune 46 = .ok (.iload_n 1, 1) := by decide +kernel
theorem dX4_tune_47 : decode cX4_tune 47 = .ok (.iconst 1, 1) := by decide +kernel
theorem dX4_tune_48 : decode cX4_tune 48 = .ok (.invokevirtual 39, 3) := by decide +kernel
theorem dX4_tune_51 : decode cX4_tune 51 = .ok (.istore 4, 2) := by decide +kernel
theorem dX4_tune_53 : decode cX4_tune 53 = .ok (.aload_n 0, 1) := by decide +kernel
theorem dX4_tune_54 : decode cX4_tune 54 = .ok (.iload_n 1, 1) := by decide +kernel
theorem dX4_tune_55 : decode cX4_tune 55 = .ok (.iconst 1, 1) := by decide +kernel
theorem dX4_tune_56 : decode cX4_tune 56 = .ok (.bipush 100, 2) := by decide +kernel
theorem dX4_tune_58 : decode cX4_tune 58 = .ok (.iload_n 2, 1) := by decide +kernel
theorem dX4_tune_59 : decode cX4_tune 59 = .ok (.imul, 1) := by decide +kernel
theorem dX4_tune_60 : decode cX4_tune 60 = .ok (.invokevirtual 62, 3) := by decide +kernel
theorem dX4_tune_63 : decode cX4_tune 63 = .ok (.aload_n 0, 1) := by decide +kernel
theorem dX4_tune_64 : decode cX4_tune 64 = .ok (.iload_n 1, 1) := by decide +kernel
theorem dX4_tune_65 : decode cX4_tune 65 = .ok (.iconst 2, 1) := by decide +kernel
theorem dX4_tune_66 : decode cX4_tune 66 = .ok (.iload_n 3, 1) := by decide +kernel
theorem dX4_tune_67 : decode cX4_tune 67 = .ok (.invokevirtual 62, 3) := by decide +kernel
theorem dX4_tune_70 : decode cX4_tune 70 = .ok (.iload 4, 2) := by decide +kernel
theorem dX4_tune_72 : decode cX4_tune 72 = .ok (.ireturn, 1) := by decide +kernel
theorem dX4_set_0 : decode cX4_set 0 = .ok (.iload_n 1, 1) := by decide +kernel
theorem dX4_set_1 : decode cX4_set 1 = .ok (.iconst 0, 1) := by decide +kernel
theorem dX4_set_2 : decode cX4_set 2 = .ok (.iconst 2, 1) := by decide +kernel
theorem dX4_set_3 : decode cX4_set 3 = .ok (.invokestatic 35, 3) := by decide +kernel
theorem dX4_set_6 : decode cX4_set 6 = .ok (.ifCond .ne 5, 3) := by decide +kernel
theorem dX4_set_9 : decode cX4_set 9 = .ok (.iconst (-1), 1) := by decide +kernel
theorem dX4_set_10 : decode cX4_set 10 = .ok (.ireturn, 1) := by decide +kernel
theorem dX4_set_11 : decode cX4_set 11 = .ok (.iload_n 1, 1) := by decide +kernel
theorem dX4_set_12 : decode cX4_set 12 = .ok (.ifCond .ne 15, 3) := by decide +kernel
theorem dX4_set_15 : decode cX4_set 15 = .ok (.iload_n 2, 1) := by decide +kernel
theorem dX4_set_16 : decode cX4_set 16 = .ok (.bipush 10, 2) := by decide +kernel
theorem dX4_set_18 : decode cX4_set 18 = .ok (.sipush 200, 3) := by decide +kernel
theorem dX4_set_21 : decode cX4_set 21 = .ok (.invokestatic 35, 3) := by decide +kernel
theorem dX4_set_24 : decode cX4_set 24 = .ok (.goto 20, 3) := by decide +kernel
theorem dX4_set_27 : decode cX4_set 27 = .ok (.iload_n 2, 1) := by decide +kernel
theorem dX4_set_28 : decode cX4_set 28 = .ok (.iconst 0, 1) := by decide +kernel
theorem dX4_set_29 : decode cX4_set 29 = .ok (.iload_n 1, 1) := by decide +kernel
theorem dX4_set_30 : decode cX4_set 30 = .ok (.iconst 1, 1) := by decide +kernel
theorem dX4_set_31 : decode cX4_set 31 = .ok (.if_icmp .ne 8, 3) := by decide +kernel
theorem dX4_set_34 : decode cX4_set 34 = .ok (.bipush 100, 2) := by decide +kernel
theorem dX4_set_36 : decode cX4_set 36 = .ok (.goto 5, 3) := by decide +kernel
theorem dX4_set_39 : decode cX4_set 39 = .ok (.bipush 99, 2) := by decide +kernel
theorem dX4_set_41 : decode cX4_set 41 = .ok (.invokestatic 35, 3) := by decide +kernel
theorem dX4_set_44 : decode cX4_set 44 = .ok (.istore_n 3, 1) := by decide +kernel
theorem dX4_set_45 : decode cX4_set 45 = .ok (.iload_n 3, 1) := by decide +kernel
theorem dX4_set_46 : decode cX4_set 46 = .ok (.ifCond .ne 6, 3) := by decide +kernel
theorem dX4_set_49 : decode cX4_set 49 = .ok (.bipush (-2), 2) := by decide +kernel
theorem dX4_set_51 : decode cX4_set 51 = .ok (.ireturn, 1) := by decide +kernel
theorem dX4_set_52 : decode cX4_set 52 = .ok (.aload_n 0, 1) := by decide +kernel
theorem dX4_set_53 : decode cX4_set 53 = .ok (.getfield 7, 3) := by decide +kernel
theorem dX4_set_56 : decode cX4_set 56 = .ok (.iconst 5, 1) := by decide +kernel
theorem dX4_set_57 : decode cX4_set 57 = .ok (.iload_n 1, 1) := by decide +kernel
theorem dX4_set_58 : decode cX4_set 58 = .ok (.iadd, 1) := by decide +kernel
theorem dX4_set_59 : decode cX4_set 59 = .ok (.iaload, 1) := by decide +kernel
theorem dX4_set_60 : decode cX4_set 60 = .ok (.istore 4, 2) := by decide +kernel
theorem dX4_set_62 : decode cX4_set 62 = .ok (.iload 4, 2) := by decide +kernel
theorem dX4_set_64 : decode cX4_set 64 = .ok (.iload_n 2, 1) := by decide +kernel
theorem dX4_set_65 : decode cX4_set 65 = .ok (.if_icmp .ne 6, 3) := by decide +kernel
theorem dX4_set_68 : decode cX4_set 68 = .ok (.bipush (-5), 2) := by decide +kernel
theorem dX4_set_70 : decode cX4_set 70 = .ok (.ireturn, 1) := by decide +kernel
theorem dX4_set_71 : decode cX4_set 71 = .ok (.aload_n 0, 1) := by decide +kernel
theorem dX4_set_72 : decode cX4_set 72 = .ok (.invokevirtual 98, 3) := by decide +kernel
theorem dX4_set_75 : decode cX4_set 75 = .ok (.aload_n 0, 1) := by decide +kernel
theorem dX4_set_76 : decode cX4_set 76 = .ok (.getfield 7, 3) := by decide +kernel
theorem dX4_set_79 : decode cX4_set 79 = .ok (.iconst 5, 1) := by decide +kernel
theorem dX4_set_80 : decode cX4_set 80 = .ok (.iload_n 1, 1) := by decide +kernel
theorem dX4_set_81 : decode cX4_set 81 = .ok (.iadd, 1) := by decide +kernel
theorem dX4_set_82 : decode cX4_set 82 = .ok (.iload_n 2, 1) := by decide +kernel
theorem dX4_set_83 : decode cX4_set 83 = .ok (.iastore, 1) := by decide +kernel
theorem dX4_set_84 : decode cX4_set 84 = .ok (.iconst 0, 1) := by decide +kernel
theorem dX4_set_85 : decode cX4_set 85 = .ok (.istore 5, 2) := by decide +kernel
theorem dX4_set_87 : decode cX4_set 87 = .ok (.iload 5, 2) := by decide +kernel
theorem dX4_set_89 : decode cX4_set 89 = .ok (.bipush 16, 2) := by decide +kernel
theorem dX4_set_91 : decode cX4_set 91 = .ok (.if_icmp .ge 46, 3) := by decide +kernel
theorem dX4_set_94 : decode cX4_set 94 = .ok (.aload_n 0, 1) := by decide +kernel
theorem dX4_set_95 : decode cX4_set 95 = .ok (.iload 5, 2) := by decide +kernel
theorem dX4_set_97 : decode cX4_set 97 = .ok (.iconst 1, 1) := by decide +kernel
theorem dX4_set_98 : decode cX4_set 98 = .ok (.aload_n 0, 1) := by decide +kernel
theorem dX4_set_99 : decode cX4_set 99 = .ok (.iload 5, 2) := by decide +kernel
theorem dX4_set_101 : decode cX4_set 101 = .ok (.iconst 1, 1) := by decide +kernel
theorem dX4_set_102 : decode cX4_set 102 = .ok (.invokevirtual 39, 3) := by decide +kernel
theorem dX4_set_105 : decode cX4_set 105 = .ok (.aload_n 0, 1) := by decide +kernel
theorem dX4_set_106 : decode cX4_set 106 = .ok (.invokevirtual 70, 3) := by decide +kernel
theorem dX4_set_109 : decode cX4_set 109 = .ok (.if_icmp .ge 13, 3) := by decide +kernel
theorem dX4_set_112 : decode cX4_set 112 = .ok (.aload_n 0, 1) := by decide +kernel
theorem dX4_set_113 : decode cX4_set 113 = .ok (.iload 5, 2) := by decide +kernel
theorem dX4_set_115 : decode cX4_set 115 = .ok (.iconst 1, 1) := by decide +kernel
theorem dX4_set_116 : decode cX4_set 116 = .ok (.invokevirtual 39, 3) := by decide +kernel
theorem dX4_set_119 : decode cX4_set 119 = .ok (.goto 9, 3) := by decide +kernel
theorem dX4_set_122 : decode cX4_set 122 = .ok (.aload_n 0, 1) := by decide +kernel
theorem dX4_set_123 : decode cX4_set 123 = .ok (.invokevirtual 70, 3) := by decide +kernel
theorem dX4_set_126 : decode cX4_set 126 = .ok (.iconst 1, 1) := by decide +kernel
theorem dX4_set_127 : decode cX4_set 127 = .ok (.isub, 1) := by decide +kernel
theorem dX4_set_128 : decode cX4_set 128 = .ok (.invokevirtual 62, 3) := by decide +kernel
theorem dX4_set_131 : decode cX4_set 131 = .ok (.iinc 5 1, 3) := by decide +kernel
theorem dX4_set_134 : decode cX4_set 134 = .ok (.goto (-47), 3) := by decide +kernel
theorem dX4_set_137 : decode cX4_set 137 = .ok (.iload 4, 2) := by decide +kernel
theorem dX4_set_139 : decode cX4_set 139 = .ok (.ireturn, 1) := by decide +kernel
theorem dX4_pass_0 : decode cX4_pass 0 = .ok (.iload_n 1, 1) := by decide +kernel
theorem dX4_pass_1 : decode cX4_pass 1 = .ok (.iconst 1, 1) := by decide +kernel
theorem dX4_pass_2 : decode cX4_pass 2 = .ok (.sipush 999, 3) := by decide +kernel
theorem dX4_pass_5 : decode cX4_pass 5 = .ok (.invokestatic 35, 3) := by decide +kernel
theorem dX4_pass_8 : decode cX4_pass 8 = .ok (.ifCond .ne 6, 3) := by decide +kernel
theorem dX4_pass_11 : decode cX4_pass 11 = .ok (.bipush (-2), 2) := by decide +kernel
theorem dX4_pass_13 : decode cX4_pass 13 = .ok (.ireturn, 1) := by decide +kernel
theorem dX4_pass_14 : decode cX4_pass 14 = .ok (.aload_n 0, 1) := by decide +kernel
theorem dX4_pass_15 : decode cX4_pass 15 = .ok (.getfield 7, 3) := by decide +kernel
theorem dX4_pass_18 : decode cX4_pass 18 = .ok (.iconst 0, 1) := by decide +kernel
theorem dX4_pass_19 : decode cX4_pass 19 = .ok (.iaload, 1) := by decide +kernel
theorem dX4_pass_20 : decode cX4_pass 20 = .ok (.iload_n 1, 1) := by decide +kernel
theorem dX4_pass_21 : decode cX4_pass 21 = .ok (.iadd, 1) := by decide +kernel
theorem dX4_pass_22 : decode cX4_pass 22 = .ok (.ldc 114, 2) := by decide +kernel
theorem dX4_pass_24 : decode cX4_pass 24 = .ok (.if_icmp .le 6, 3) := by decide +kernel
theorem dX4_pass_27 : decode cX4_pass 27 = .ok (.bipush (-3), 2) := by decide +kernel
theorem dX4_pass_29 : decode cX4_pass 29 = .ok (.ireturn, 1) := by decide +kernel
theorem dX4_pass_30 : decode cX4_pass 30 = .ok (.aload_n 0, 1) := by decide +kernel
theorem dX4_pass_31 : decode cX4_pass 31 = .ok (.invokevirtual 98, 3) := by decide +kernel
theorem dX4_pass_34 : decode cX4_pass 34 = .ok (.aload_n 0, 1) := by decide +kernel
theorem dX4_pass_35 : decode cX4_pass 35 = .ok (.getfield 7, 3) := by decide +kernel
theorem dX4_pass_38 : decode cX4_pass 38 = .ok (.iconst 1, 1) := by decide +kernel
theorem dX4_pass_39 : decode cX4_pass 39 = .ok (.iaload, 1) := by decide +kernel
theorem dX4_pass_40 : decode cX4_pass 40 = .ok (.istore_n 2, 1) := by decide +kernel
theorem dX4_pass_41 : decode cX4_pass 41 = .ok (.aload_n 0, 1) := by decide +kernel
theorem dX4_pass_42 : decode cX4_pass 42 = .ok (.iload_n 1, 1) := by decide +kernel
theorem dX4_pass_43 : decode cX4_pass 43 = .ok (.invokevirtual 115, 3) := by decide +kernel
theorem dX4_pass_46 : decode cX4_pass 46 = .ok (.aload_n 0, 1) := by decide +kernel
theorem dX4_pass_47 : decode cX4_pass 47 = .ok (.getfield 7, 3) := by decide +kernel
theorem dX4_pass_50 : decode cX4_pass 50 = .ok (.iconst 1, 1) := by decide +kernel
theorem dX4_pass_51 : decode cX4_pass 51 = .ok (.iaload, 1) := by decide +kernel
theorem dX4_pass_52 : decode cX4_pass 52 = .ok (.iload_n 2, 1) := by decide +kernel
theorem dX4_pass_53 : decode cX4_pass 53 = .ok (.isub, 1) := by decide +kernel
theorem dX4_pass_54 : decode cX4_pass 54 = .ok (.ireturn, 1) := by decide +kernel
theorem dX4_type_0 : decode cX4_type 0 = .ok (.aload_n 0, 1) := by decide +kernel
theorem dX4_type_1 : decode cX4_type 1 = .ok (.getfield 119, 3) := by decide +kernel
theorem dX4_type_4 : decode cX4_type 4 = .ok (.bipush 60, 2) := by decide +kernel
theorem dX4_type_6 : decode cX4_type 6 = .ok (.if_icmp .ne 6, 3) := by decide +kernel
theorem dX4_type_9 : decode cX4_type 9 = .ok (.bipush (-3), 2) := by decide +kernel
theorem dX4_type_11 : decode cX4_type 11 = .ok (.ireturn, 1) := by decide +kernel
theorem dX4_type_12 : decode cX4_type 12 = .ok (.aload_n 0, 1) := by decide +kernel
theorem dX4_type_13 : decode cX4_type 13 = .ok (.getfield 22, 3) := by decide +kernel
theorem dX4_type_16 : decode cX4_type 16 = .ok (.aload_n 0, 1) := by decide +kernel
theorem dX4_type_17 : decode cX4_type 17 = .ok (.getfield 119, 3) := by decide +kernel
theorem dX4_type_20 : decode cX4_type 20 = .ok (.iload_n 1, 1) := by decide +kernel
theorem dX4_type_21 : decode cX4_type 21 = .ok (.castore, 1) := by decide +kernel
theorem dX4_type_22 : decode cX4_type 22 = .ok (.aload_n 0, 1) := by decide +kernel
theorem dX4_type_23 : decode cX4_type 23 = .ok (.dup, 1) := by decide +kernel
theorem dX4_type_24 : decode cX4_type 24 = .ok (.getfield 119, 3) := by decide +kernel
theorem dX4_type_27 : decode cX4_type 27 = .ok (.iconst 1, 1) := by decide +kernel
theorem dX4_type_28 : decode cX4_type 28 = .ok (.iadd, 1) := by decide +kernel
theorem dX4_type_29 : decode cX4_type 29 = .ok (.putfield 119, 3) := by decide +kernel
theorem dX4_type_32 : decode cX4_type 32 = .ok (.aload_n 0, 1) := by decide +kernel
theorem dX4_type_33 : decode cX4_type 33 = .ok (.getfield 119, 3) := by decide +kernel
theorem dX4_type_36 : decode cX4_type 36 = .ok (.ireturn, 1) := by decide +kernel
theorem dX4_clearText_0 : decode cX4_clearText 0 = .ok (.aload_n 0, 1) := by decide +kernel
theorem dX4_clearText_1 : decode cX4_clearText 1 = .ok (.getfield 119, 3) := by decide +kernel
theorem dX4_clearText_4 : decode cX4_clearText 4 = .ok (.istore_n 1, 1) := by decide +kernel
theorem dX4_clearText_5 : decode cX4_clearText 5 = .ok (.aload_n 0, 1) := by decide +kernel
theorem dX4_clearText_6 : decode cX4_clearText 6 = .ok (.iconst 0, 1) := by decide +kernel
theorem dX4_clearText_7 : decode cX4_clearText 7 = .ok (.putfield 119, 3) := by decide +kernel
theorem dX4_clearText_10 : decode cX4_clearText 10 = .ok (.iload_n 1, 1) := by decide +kernel
theorem dX4_clearText_11 : decode cX4_clearText 11 = .ok (.ireturn, 1) := by decide +kernel
theorem dX4_isNext_0 : decode cX4_isNext 0 = .ok (.aload_n 0, 1) := by decide +kernel
theorem dX4_isNext_1 : decode cX4_isNext 1 = .ok (.getfield 122, 3) := by decide +kernel
theorem dX4_isNext_4 : decode cX4_isNext 4 = .ok (.aload_n 0, 1) := by decide +kernel
theorem dX4_isNext_5 : decode cX4_isNext 5 = .ok (.getfield 119, 3) := by decide +kernel
theorem dX4_isNext_8 : decode cX4_isNext 8 = .ok (.if_icmp .ge 24, 3) := by decide +kernel
theorem dX4_isNext_11 : decode cX4_isNext 11 = .ok (.aload_n 0, 1) := by decide +kernel
theorem dX4_isNext_12 : decode cX4_isNext 12 = .ok (.getfield 22, 3) := by decide +kernel
theorem dX4_isNext_15 : decode cX4_isNext 15 = .ok (.aload_n 0, 1) := by decide +kernel
theorem dX4_isNext_16 : decode cX4_isNext 16 = .ok (.getfield 122, 3) := by decide +kernel
theorem dX4_isNext_19 : decode cX4_isNext 19 = .ok (.caload, 1) := by decide +kernel
theorem dX4_isNext_20 : decode cX4_isNext 20 = .ok (.iload_n 1, 1) := by decide +kernel
theorem dX4_isNext_21 : decode cX4_isNext 21 = .ok (.iload_n 2, 1) := by decide +kernel
theorem dX4_isNext_22 : decode cX4_isNext 22 = .ok (.invokestatic 35, 3) := by decide +kernel
theorem dX4_isNext_25 : decode cX4_isNext 25 = .ok (.ifCond .eq 7, 3) := by decide +kernel
theorem dX4_isNext_28 : decode cX4_isNext 28 = .ok (.iconst 1, 1) := by decide +kernel
theorem dX4_isNext_29 : decode cX4_isNext 29 = .ok (.goto 4, 3) := by decide +kernel
theorem dX4_isNext_32 : decode cX4_isNext 32 = .ok (.iconst 0, 1) := by decide +kernel
theorem dX4_isNext_33 : decode cX4_isNext 33 = .ok (.ireturn, 1) := by decide +kernel
theorem dX4_takes_0 : decode cX4_takes 0 = .ok (.aload_n 0, 1) := by decide +kernel
theorem dX4_takes_1 : decode cX4_takes 1 = .ok (.iload_n 1, 1) := by decide +kernel
theorem dX4_takes_2 : decode cX4_takes 2 = .ok (.iload_n 1, 1) := by decide +kernel
theorem dX4_takes_3 : decode cX4_takes 3 = .ok (.invokevirtual 125, 3) := by decide +kernel
theorem dX4_takes_6 : decode cX4_takes 6 = .ok (.istore_n 2, 1) := by decide +kernel
theorem dX4_takes_7 : decode cX4_takes 7 = .ok (.aload_n 0, 1) := by decide +kernel
theorem dX4_takes_8 : decode cX4_takes 8 = .ok (.dup, 1) := by decide +kernel
theorem dX4_takes_9 : decode cX4_takes 9 = .ok (.getfield 122, 3) := by decide +kernel
theorem dX4_takes_12 : decode cX4_takes 12 = .ok (.iload_n 2, 1) := by decide +kernel
theorem dX4_takes_13 : decode cX4_takes 13 = .ok (.ifCond .eq 7, 3) := by decide +kernel
theorem dX4_takes_16 : decode cX4_takes 16 = .ok (.iconst 1, 1) := by decide +kernel
theorem dX4_takes_17 : decode cX4_takes 17 = .ok (.goto 4, 3) := by decide +kernel
theorem dX4_takes_20 : decode cX4_takes 20 = .ok (.iconst 0, 1) := by decide +kernel
theorem dX4_takes_21 : decode cX4_takes 21 = .ok (.iadd, 1) := by decide +kernel
theorem dX4_takes_22 : decode cX4_takes 22 = .ok (.putfield 122, 3) := by decide +kernel
theorem dX4_takes_25 : decode cX4_takes 25 = .ok (.iload_n 2, 1) := by decide +kernel
theorem dX4_takes_26 : decode cX4_takes 26 = .ok (.ireturn, 1) := by decide +kernel
theorem dX4_begins_0 : decode cX4_begins 0 = .ok (.iload_n 0, 1) := by decide +kernel
theorem dX4_begins_1 : decode cX4_begins 1 = .ok (.istore_n 3, 1) := by decide +kernel
theorem dX4_begins_2 : decode cX4_begins 2 = .ok (.iload_n 0, 1) := by decide +kernel
theorem dX4_begins_3 : decode cX4_begins 3 = .ok (.istore 4, 2) := by decide +kernel
theorem dX4_begins_5 : decode cX4_begins 5 = .ok (.iload_n 3, 1) := by decide +kernel
theorem dX4_begins_6 : decode cX4_begins 6 = .ok (.ifCond .le 32, 3) := by decide +kernel
theorem dX4_begins_9 : decode cX4_begins 9 = .ok (.iload_n 3, 1) := by decide +kernel
theorem dX4_begins_10 : decode cX4_begins 10 = .ok (.iload_n 2, 1) := by decide +kernel
theorem dX4_begins_11 : decode cX4_begins 11 = .ok (.if_icmp .gt 27, 3) := by decide +kernel
theorem dX4_begins_14 : decode cX4_begins 14 = .ok (.iload 4, 2) := by decide +kernel
theorem dX4_begins_16 : decode cX4_begins 16 = .ok (.iload_n 1, 1) := by decide +kernel
theorem dX4_begins_17 : decode cX4_begins 17 = .ok (.if_icmp .ge 21, 3) := by decide +kernel
theorem dX4_begins_20 : decode cX4_begins 20 = .ok (.bipush 10, 2) := by decide +kernel
theorem dX4_begins_22 : decode cX4_begins 22 = .ok (.iload_n 3, 1) := by decide +kernel
theorem dX4_begins_23 : decode cX4_begins 23 = .ok (.imul, 1) := by decide +kernel
theorem dX4_begins_24 : decode cX4_begins 24 = .ok (.istore_n 3, 1) := by decide +kernel
theorem dX4_begins_25 : decode cX4_begins 25 = .ok (.bipush 10, 2) := by decide +kernel
theorem dX4_begins_27 : decode cX4_begins 27 = .ok (.iload 4, 2) := by decide +kernel
theorem dX4_begins_29 : decode cX4_begins 29 = .ok (.imul, 1) := by decide +kernel
theorem dX4_begins_30 : decode cX4_begins 30 = .ok (.bipush 9, 2) := by decide +kernel
theorem dX4_begins_32 : decode cX4_begins 32 = .ok (.iadd, 1) := by decide +kernel
theorem dX4_begins_33 : decode cX4_begins 33 = .ok (.istore 4, 2) := by decide +kernel
theorem dX4_begins_35 : decode cX4_begins 35 = .ok (.goto (-30), 3) := by decide +kernel
theorem dX4_begins_38 : decode cX4_begins 38 = .ok (.iload 4, 2) := by decide +kernel
theorem dX4_begins_40 : decode cX4_begins 40 = .ok (.iload_n 1, 1) := by decide +kernel
theorem dX4_begins_41 : decode cX4_begins 41 = .ok (.if_icmp .lt 12, 3) := by decide +kernel
theorem dX4_begins_44 : decode cX4_begins 44 = .ok (.iload_n 3, 1) := by decide +kernel
theorem dX4_begins_45 : decode cX4_begins 45 = .ok (.iload_n 2, 1) := by decide +kernel
theorem dX4_begins_46 : decode cX4_begins 46 = .ok (.if_icmp .gt 7, 3) := by decide +kernel
theorem dX4_begins_49 : decode cX4_begins 49 = .ok (.iconst 1, 1) := by decide +kernel
theorem dX4_begins_50 : decode cX4_begins 50 = .ok (.goto 4, 3) := by decide +kernel
theorem dX4_begins_53 : decode cX4_begins 53 = .ok (.iconst 0, 1) := by decide +kernel
theorem dX4_begins_54 : decode cX4_begins 54 = .ok (.ireturn, 1) := by decide +kernel
theorem dX4_readNumber_0 : decode cX4_readNumber 0 = .ok (.bipush (-5), 2) := by decide +kernel
theorem dX4_readNumber_2 : decode cX4_readNumber 2 = .ok (.istore_n 3, 1) := by decide +kernel
theorem dX4_readNumber_3 : decode cX4_readNumber 3 = .ok (.aload_n 0, 1) := by decide +kernel
theorem dX4_readNumber_4 : decode cX4_readNumber 4 = .ok (.bipush 48, 2) := by decide +kernel
theorem dX4_readNumber_6 : decode cX4_readNumber 6 = .ok (.bipush 57, 2) := by decide +kernel
theorem dX4_readNumber_8 : decode cX4_readNumber 8 = .ok (.invokevirtual 125, 3) := by decide +kernel
theorem dX4_readNumber_11 : decode cX4_readNumber 11 = .ok (.ifCond .eq 89, 3) := by decide +kernel
theorem dX4_readNumber_14 : decode cX4_readNumber 14 = .ok (.iload_n 3, 1) := by decide +kernel
theorem dX4_readNumber_15 : decode cX4_readNumber 15 = .ok (.ifCond .eq 85, 3) := by decide +kernel
theorem dX4_readNumber_18 : decode cX4_readNumber 18 = .ok (.iload_n 3, 1) := by decide +kernel
theorem dX4_readNumber_19 : decode cX4_readNumber 19 = .ok (.bipush (-5), 2) := by decide +kernel
theorem dX4_readNumber_21 : decode cX4_readNumber 21 = .ok (.if_icmp .ne 18, 3) := by decide +kernel
theorem dX4_readNumber_24 : decode cX4_readNumber 24 = .ok (.aload_n 0, 1) := by decide +kernel
theorem dX4_readNumber_25 : decode cX4_readNumber 25 = .ok (.getfield 22, 3) := by decide +kernel
theorem dX4_readNumber_28 : decode cX4_readNumber 28 = .ok (.aload_n 0, 1) := by decide +kernel
theorem dX4_readNumber_29 : decode cX4_readNumber 29 = .ok (.getfield 122, 3) := by decide +kernel
theorem dX4_readNumber_32 : decode cX4_readNumber 32 = .ok (.caload, 1) := by decide +kernel
theorem dX4_readNumber_33 : decode cX4_readNumber 33 = .ok (.bipush 48, 2) := by decide +kernel
theorem dX4_readNumber_35 : decode cX4_readNumber 35 = .ok (.isub, 1) := by decide +kernel
theorem dX4_readNumber_36 : decode cX4_readNumber 36 = .ok (.goto 20, 3) := by decide +kernel
theorem dX4_readNumber_39 : decode cX4_readNumber 39 = .ok (.bipush 10, 2) := by decide +kernel
theorem dX4_readNumber_41 : decode cX4_readNumber 41 = .ok (.iload_n 3, 1) := by decide +kernel
theorem dX4_readNumber_42 : decode cX4_readNumber 42 = .ok (.imul, 1) := by decide +kernel
theorem dX4_readNumber_43 : decode cX4_readNumber 43 = .ok (.aload_n 0, 1) := by decide +kernel
theorem dX4_readNumber_44 : decode cX4_readNumber 44 = .ok (.getfield 22, 3) := by decide +kernel
theorem dX4_readNumber_47 : decode cX4_readNumber 47 = .ok (.aload_n 0, 1) := by decide +kernel
theorem dX4_readNumber_48 : decode cX4_readNumber 48 = .ok (.getfield 122, 3) := by decide +kernel
theorem dX4_readNumber_51 : decode cX4_readNumber 51 = .ok (.caload, 1) := by decide +kernel
theorem dX4_readNumber_52 : decode cX4_readNumber 52 = .ok (.iadd, 1) := by decide +kernel
theorem dX4_readNumber_53 : decode cX4_readNumber 53 = .ok (.bipush 48, 2) := by decide +kernel
theorem dX4_readNumber_55 : decode cX4_readNumber 55 = .ok (.isub, 1) := by decide +kernel
theorem dX4_readNumber_56 : decode cX4_readNumber 56 = .ok (.istore 4, 2) := by decide +kernel
theorem dX4_readNumber_58 : decode cX4_readNumber 58 = .ok (.iload 4, 2) := by decide +kernel
theorem dX4_readNumber_60 : decode cX4_readNumber 60 = .ok (.iload_n 1, 1) := by decide +kernel
theorem dX4_readNumber_61 : decode cX4_readNumber 61 = .ok (.iload_n 2, 1) := by decide +kernel
theorem dX4_readNumber_62 : decode cX4_readNumber 62 = .ok (.invokestatic 128, 3) := by decide +kernel
theorem dX4_readNumber_65 : decode cX4_readNumber 65 = .ok (.ifCond .ne 19, 3) := by decide +kernel
theorem dX4_readNumber_68 : decode cX4_readNumber 68 = .ok (.iload_n 3, 1) := by decide +kernel
theorem dX4_readNumber_69 : decode cX4_readNumber 69 = .ok (.iload_n 1, 1) := by decide +kernel
theorem dX4_readNumber_70 : decode cX4_readNumber 70 = .ok (.iload_n 2, 1) := by decide +kernel
theorem dX4_readNumber_71 : decode cX4_readNumber 71 = .ok (.invokestatic 35, 3) := by decide +kernel
theorem dX4_readNumber_74 : decode cX4_readNumber 74 = .ok (.ifCond .eq 7, 3) := by decide +kernel
theorem dX4_readNumber_77 : decode cX4_readNumber 77 = .ok (.iload_n 3, 1) := by decide +kernel
theorem dX4_readNumber_78 : decode cX4_readNumber 78 = .ok (.goto 5, 3) := by decide +kernel
theorem dX4_readNumber_81 : decode cX4_readNumber 81 = .ok (.bipush (-5), 2) := by decide +kernel
theorem dX4_readNumber_83 : decode cX4_readNumber 83 = .ok (.ireturn, 1) := by decide +kernel
theorem dX4_readNumber_84 : decode cX4_readNumber 84 = .ok (.iload 4, 2) := by decide +kernel
theorem dX4_readNumber_86 : decode cX4_readNumber 86 = .ok (.istore_n 3, 1) := by decide +kernel
theorem dX4_readNumber_87 : decode cX4_readNumber 87 = .ok (.aload_n 0, 1) := by decide +kernel
theorem dX4_readNumber_88 : decode cX4_readNumber 88 = .ok (.dup, 1) := by decide +kernel
theorem dX4_readNumber_89 : decode cX4_readNumber 89 = .ok (.getfield 122, 3) := by decide +kernel
theorem dX4_readNumber_92 : decode cX4_readNumber 92 = .ok (.iconst 1, 1) := by decide +kernel
theorem dX4_readNumber_93 : decode cX4_readNumber 93 = .ok (.iadd, 1) := by decide +kernel
theorem dX4_readNumber_94 : decode cX4_readNumber 94 = .ok (.putfield 122, 3) := by decide +kernel
theorem dX4_readNumber_97 : decode cX4_readNumber 97 = .ok (.goto (-94), 3) := by decide +kernel
theorem dX4_readNumber_100 : decode cX4_readNumber 100 = .ok (.iload_n 3, 1) := by decide +kernel
theorem dX4_readNumber_101 : decode cX4_readNumber 101 = .ok (.iload_n 1, 1) := by decide +kernel
theorem dX4_readNumber_102 : decode cX4_readNumber 102 = .ok (.iload_n 2, 1) := by decide +kernel
theorem dX4_readNumber_103 : decode cX4_readNumber 103 = .ok (.invokestatic 35, 3) := by decide +kernel
theorem dX4_readNumber_106 : decode cX4_readNumber 106 = .ok (.ifCond .eq 7, 3) := by decide +kernel
theorem dX4_readNumber_109 : decode cX4_readNumber 109 = .ok (.iload_n 3, 1) := by decide +kernel
theorem dX4_readNumber_110 : decode cX4_readNumber 110 = .ok (.goto 5, 3) := by decide +kernel
theorem dX4_readNumber_113 : decode cX4_readNumber 113 = .ok (.bipush (-5), 2) := by decide +kernel
theorem dX4_readNumber_115 : decode cX4_readNumber 115 = .ok (.ireturn, 1) := by decide +kernel
theorem dX4_readLamp_0 : decode cX4_readLamp 0 = .ok (.aload_n 0, 1) := by decide +kernel
theorem dX4_readLamp_1 : decode cX4_readLamp 1 = .ok (.iconst 0, 1) := by decide +kernel
theorem dX4_readLamp_2 : decode cX4_readLamp 2 = .ok (.sipush 199, 3) := by decide +kernel
theorem dX4_readLamp_5 : decode cX4_readLamp 5 = .ok (.invokevirtual 131, 3) := by decide +kernel
theorem dX4_readLamp_8 : decode cX4_readLamp 8 = .ok (.istore_n 1, 1) := by decide +kernel
theorem dX4_readLamp_9 : decode cX4_readLamp 9 = .ok (.iload_n 1, 1) := by decide +kernel
theorem dX4_readLamp_10 : decode cX4_readLamp 10 = .ok (.bipush (-5), 2) := by decide +kernel
theorem dX4_readLamp_12 : decode cX4_readLamp 12 = .ok (.if_icmp .ne 5, 3) := by decide +kernel
theorem dX4_readLamp_15 : decode cX4_readLamp 15 = .ok (.iconst 0, 1) := by decide +kernel
theorem dX4_readLamp_16 : decode cX4_readLamp 16 = .ok (.ireturn, 1) := by decide +kernel
theorem dX4_readLamp_17 : decode cX4_readLamp 17 = .ok (.aload_n 0, 1) := by decide +kernel
theorem dX4_readLamp_18 : decode cX4_readLamp 18 = .ok (.getfield 26, 3) := by decide +kernel
theorem dX4_readLamp_21 : decode cX4_readLamp 21 = .ok (.aload_n 0, 1) := by decide +kernel
theorem dX4_readLamp_22 : decode cX4_readLamp 22 = .ok (.getfield 134, 3) := by decide +kernel
theorem dX4_readLamp_25 : decode cX4_readLamp 25 = .ok (.iload_n 1, 1) := by decide +kernel
theorem dX4_readLamp_26 : decode cX4_readLamp 26 = .ok (.iastore, 1) := by decide +kernel
theorem dX4_readLamp_27 : decode cX4_readLamp 27 = .ok (.aload_n 0, 1) := by decide +kernel
theorem dX4_readLamp_28 : decode cX4_readLamp 28 = .ok (.getfield 29, 3) := by decide +kernel
theorem dX4_readLamp_31 : decode cX4_readLamp 31 = .ok (.aload_n 0, 1) := by decide +kernel
theorem dX4_readLamp_32 : decode cX4_readLamp 32 = .ok (.getfield 134, 3) := by decide +kernel
theorem dX4_readLamp_35 : decode cX4_readLamp 35 = .ok (.aload_n 0, 1) := by decide +kernel
theorem dX4_readLamp_36 : decode cX4_readLamp 36 = .ok (.bipush 42, 2) := by decide +kernel
theorem dX4_readLamp_38 : decode cX4_readLamp 38 = .ok (.invokevirtual 137, 3) := by decide +kernel
theorem dX4_readLamp_41 : decode cX4_readLamp 41 = .ok (.ifCond .eq 15, 3) := by decide +kernel
theorem dX4_readLamp_44 : decode cX4_readLamp 44 = .ok (.aload_n 0, 1) := by decide +kernel
theorem dX4_readLamp_45 : decode cX4_readLamp 45 = .ok (.bipush 50, 2) := by decide +kernel
theorem dX4_readLamp_47 : decode cX4_readLamp 47 = .ok (.sipush 150, 3) := by decide +kernel
theorem dX4_readLamp_50 : decode cX4_readLamp 50 = .ok (.invokevirtual 131, 3) := by decide +kernel
theorem dX4_readLamp_53 : decode cX4_readLamp 53 = .ok (.goto 5, 3) := by decide +kernel
theorem dX4_readLamp_56 : decode cX4_readLamp 56 = .ok (.bipush 100, 2) := by decide +kernel
theorem dX4_readLamp_58 : decode cX4_readLamp 58 = .ok (.iastore, 1) := by decide +kernel
theorem dX4_readLamp_59 : decode cX4_readLamp 59 = .ok (.aload_n 0, 1) := by decide +kernel
theorem dX4_readLamp_60 : decode cX4_readLamp 60 = .ok (.getfield 32, 3) := by decide +kernel
theorem dX4_readLamp_63 : decode cX4_readLamp 63 = .ok (.aload_n 0, 1) := by decide +kernel
theorem dX4_readLamp_64 : decode cX4_readLamp 64 = .ok (.getfield 134, 3) := by decide +kernel
theorem dX4_readLamp_67 : decode cX4_readLamp 67 = .ok (.iconst 0, 1) := by decide +kernel
theorem dX4_readLamp_68 : decode cX4_readLamp 68 = .ok (.iastore, 1) := by decide +kernel
theorem dX4_readLamp_69 : decode cX4_readLamp 69 = .ok (.aload_n 0, 1) := by decide +kernel
theorem dX4_readLamp_70 : decode cX4_readLamp 70 = .ok (.getfield 29, 3) := by decide +kernel
theorem dX4_readLamp_73 : decode cX4_readLamp 73 = .ok (.aload_n 0, 1) := by decide +kernel
theorem dX4_readLamp_74 : decode cX4_readLamp 74 = .ok (.getfield 134, 3) := by decide +kernel
theorem dX4_readLamp_77 : decode cX4_readLamp 77 = .ok (.iaload, 1) := by decide +kernel
theorem dX4_readLamp_78 : decode cX4_readLamp 78 = .ok (.bipush (-5), 2) := by decide +kernel
theorem dX4_readLamp_80 : decode cX4_readLamp 80 = .ok (.if_icmp .eq 7, 3) := by decide +kernel
theorem dX4_readLamp_83 : decode cX4_readLamp 83 = .ok (.iconst 1, 1) := by decide +kernel
theorem dX4_readLamp_84 : decode cX4_readLamp 84 = .ok (.goto 4, 3) := by decide +kernel
theorem dX4_readLamp_87 : decode cX4_readLamp 87 = .ok (.iconst 0, 1) := by decide +kernel
theorem dX4_readLamp_88 : decode cX4_readLamp 88 = .ok (.istore_n 2, 1) := by decide +kernel
theorem dX4_readLamp_89 : decode cX4_readLamp 89 = .ok (.aload_n 0, 1) := by decide +kernel
theorem dX4_readLamp_90 : decode cX4_readLamp 90 = .ok (.dup, 1) := by decide +kernel
theorem dX4_readLamp_91 : decode cX4_readLamp 91 = .ok (.getfield 134, 3) := by decide +kernel
theorem dX4_readLamp_94 : decode cX4_readLamp 94 = .ok (.iconst 1, 1) := by decide +kernel
theorem dX4_readLamp_95 : decode cX4_readLamp 95 = .ok (.iadd, 1) := by decide +kernel
theorem dX4_readLamp_96 : decode cX4_readLamp 96 = .ok (.putfield 134, 3) := by decide +kernel
theorem dX4_readLamp_99 : decode cX4_readLamp 99 = .ok (.iload_n 2, 1) := by decide +kernel
theorem dX4_readLamp_100 : decode cX4_readLamp 100 = .ok (.ireturn, 1) := by decide +kernel
theorem dX4_readLink_0 : decode cX4_readLink 0 = .ok (.aload_n 0, 1) := by decide +kernel
theorem dX4_readLink_1 : decode cX4_readLink 1 = .ok (.bipush 97, 2) := by decide +kernel
theorem dX4_readLink_3 : decode cX4_readLink 3 = .ok (.bipush 97, 2) := by decide +kernel
theorem dX4_readLink_5 : decode cX4_readLink 5 = .ok (.aload_n 0, 1) := by decide +kernel
theorem dX4_readLink_6 : decode cX4_readLink 6 = .ok (.getfield 134, 3) := by decide +kernel
theorem dX4_readLink_9 : decode cX4_readLink 9 = .ok (.iadd, 1) := by decide +kernel
theorem dX4_readLink_10 : decode cX4_readLink 10 = .ok (.iconst 1, 1) := by decide +kernel
theorem dX4_readLink_11 : decode cX4_readLink 11 = .ok (.isub, 1) := by decide +kernel
theorem dX4_readLink_12 : decode cX4_readLink 12 = .ok (.invokevirtual 125, 3) := by decide +kernel
theorem dX4_readLink_15 : decode cX4_readLink 15 = .ok (.ifCond .ne 5, 3) := by decide +kernel
theorem dX4_readLink_18 : decode cX4_readLink 18 = .ok (.iconst 0, 1) := by decide +kernel
theorem dX4_readLink_19 : decode cX4_readLink 19 = .ok (.ireturn, 1) := by decide +kernel
theorem dX4_readLink_20 : decode cX4_readLink 20 = .ok (.aload_n 0, 1) := by decide +kernel
theorem dX4_readLink_21 : decode cX4_readLink 21 = .ok (.getfield 22, 3) := by decide +kernel
theorem dX4_readLink_24 : decode cX4_readLink 24 = .ok (.aload_n 0, 1) := by decide +kernel
theorem dX4_readLink_25 : decode cX4_readLink 25 = .ok (.getfield 122, 3) := by decide +kernel
theorem dX4_readLink_28 : decode cX4_readLink 28 = .ok (.caload, 1) := by decide +kernel
theorem dX4_readLink_29 : decode cX4_readLink 29 = .ok (.bipush 97, 2) := by decide +kernel
theorem dX4_readLink_31 : decode cX4_readLink 31 = .ok (.isub, 1) := by decide +kernel
theorem dX4_readLink_32 : decode cX4_readLink 32 = .ok (.istore_n 1, 1) := by decide +kernel
theorem dX4_readLink_33 : decode cX4_readLink 33 = .ok (.aload_n 0, 1) := by decide +kernel
theorem dX4_readLink_34 : decode cX4_readLink 34 = .ok (.dup, 1) := by decide +kernel
theorem dX4_readLink_35 : decode cX4_readLink 35 = .ok (.getfield 122, 3) := by decide +kernel
theorem dX4_readLink_38 : decode cX4_readLink 38 = .ok (.iconst 1, 1) := by decide +kernel
theorem dX4_readLink_39 : decode cX4_readLink 39 = .ok (.iadd, 1) := by decide +kernel
theorem dX4_readLink_40 : decode cX4_readLink 40 = .ok (.putfield 122, 3) := by decide +kernel
theorem dX4_readLink_43 : decode cX4_readLink 43 = .ok (.aload_n 0, 1) := by decide +kernel
theorem dX4_readLink_44 : decode cX4_readLink 44 = .ok (.bipush 97, 2) := by decide +kernel
theorem dX4_readLink_46 : decode cX4_readLink 46 = .ok (.bipush 97, 2) := by decide +kernel
theorem dX4_readLink_48 : decode cX4_readLink 48 = .ok (.aload_n 0, 1) := by decide +kernel
theorem dX4_readLink_49 : decode cX4_readLink 49 = .ok (.getfield 134, 3) := by decide +kernel
theorem dX4_readLink_52 : decode cX4_readLink 52 = .ok (.iadd, 1) := by decide +kernel
theorem dX4_readLink_53 : decode cX4_readLink 53 = .ok (.iconst 1, 1) := by decide +kernel
theorem dX4_readLink_54 : decode cX4_readLink 54 = .ok (.isub, 1) := by decide +kernel
theorem dX4_readLink_55 : decode cX4_readLink 55 = .ok (.invokevirtual 125, 3) := by decide +kernel
theorem dX4_readLink_58 : decode cX4_readLink 58 = .ok (.ifCond .eq 19, 3) := by decide +kernel
theorem dX4_readLink_61 : decode cX4_readLink 61 = .ok (.aload_n 0, 1) := by decide +kernel
theorem dX4_readLink_62 : decode cX4_readLink 62 = .ok (.getfield 22, 3) := by decide +kernel
theorem dX4_readLink_65 : decode cX4_readLink 65 = .ok (.aload_n 0, 1) := by decide +kernel
theorem dX4_readLink_66 : decode cX4_readLink 66 = .ok (.getfield 122, 3) := by decide +kernel
theorem dX4_readLink_69 : decode cX4_readLink 69 = .ok (.caload, 1) := by decide +kernel
theorem dX4_readLink_70 : decode cX4_readLink 70 = .ok (.bipush 97, 2) := by decide +kernel
theorem dX4_readLink_72 : decode cX4_readLink 72 = .ok (.isub, 1) := by decide +kernel
theorem dX4_readLink_73 : decode cX4_readLink 73 = .ok (.iload_n 1, 1) := by decide +kernel
theorem dX4_readLink_74 : decode cX4_readLink 74 = .ok (.if_icmp .ne 5, 3) := by decide +kernel
theorem dX4_readLink_77 : decode cX4_readLink 77 = .ok (.iconst 0, 1) := by decide +kernel
theorem dX4_readLink_78 : decode cX4_readLink 78 = .ok (.ireturn, 1) := by decide +kernel
theorem dX4_readLink_79 : decode cX4_readLink 79 = .ok (.aload_n 0, 1) := by decide +kernel
theorem dX4_readLink_80 : decode cX4_readLink 80 = .ok (.getfield 22, 3) := by decide +kernel
theorem dX4_readLink_83 : decode cX4_readLink 83 = .ok (.aload_n 0, 1) := by decide +kernel
theorem dX4_readLink_84 : decode cX4_readLink 84 = .ok (.getfield 122, 3) := by decide +kernel
theorem dX4_readLink_87 : decode cX4_readLink 87 = .ok (.caload, 1) := by decide +kernel
theorem dX4_readLink_88 : decode cX4_readLink 88 = .ok (.bipush 97, 2) := by decide +kernel
theorem dX4_readLink_90 : decode cX4_readLink 90 = .ok (.isub, 1) := by decide +kernel
theorem dX4_readLink_91 : decode cX4_readLink 91 = .ok (.istore_n 2, 1) := by decide +kernel
theorem dX4_readLink_92 : decode cX4_readLink 92 = .ok (.aload_n 0, 1) := by decide +kernel
theorem dX4_readLink_93 : decode cX4_readLink 93 = .ok (.dup, 1) := by decide +kernel
theorem dX4_readLink_94 : decode cX4_readLink 94 = .ok (.getfield 122, 3) := by decide +kernel
theorem dX4_readLink_97 : decode cX4_readLink 97 = .ok (.iconst 1, 1) := by decide +kernel
theorem dX4_readLink_98 : decode cX4_readLink 98 = .ok (.iadd, 1) := by decide +kernel
theorem dX4_readLink_99 : decode cX4_readLink 99 = .ok (.putfield 122, 3) := by decide +kernel
theorem dX4_readLink_102 : decode cX4_readLink 102 = .ok (.aload_n 0, 1) := by decide +kernel
theorem dX4_readLink_103 : decode cX4_readLink 103 = .ok (.getfield 32, 3) := by decide +kernel
theorem dX4_readLink_106 : decode cX4_readLink 106 = .ok (.iload_n 1, 1) := by decide +kernel
theorem dX4_readLink_107 : decode cX4_readLink 107 = .ok (.dup2, 1) := by decide +kernel
theorem dX4_readLink_108 : decode cX4_readLink 108 = .ok (.iaload, 1) := by decide +kernel
theorem dX4_readLink_109 : decode cX4_readLink 109 = .ok (.iconst 1, 1) := by decide +kernel
theorem dX4_readLink_110 : decode cX4_readLink 110 = .ok (.iload_n 2, 1) := by decide +kernel
theorem dX4_readLink_111 : decode cX4_readLink 111 = .ok (.ishl, 1) := by decide +kernel
theorem dX4_readLink_112 : decode cX4_readLink 112 = .ok (.ior, 1) := by decide +kernel
theorem dX4_readLink_113 : decode cX4_readLink 113 = .ok (.iastore, 1) := by decide +kernel
theorem dX4_readLink_114 : decode cX4_readLink 114 = .ok (.aload_n 0, 1) := by decide +kernel
theorem dX4_readLink_115 : decode cX4_readLink 115 = .ok (.getfield 32, 3) := by decide +kernel
theorem dX4_readLink_118 : decode cX4_readLink 118 = .ok (.iload_n 2, 1) := by decide +kernel
theorem dX4_readLink_119 : decode cX4_readLink 119 = .ok (.dup2, 1) := by decide +kernel
theorem dX4_readLink_120 : decode cX4_readLink 120 = .ok (.iaload, 1) := by decide +kernel
theorem dX4_readLink_121 : decode cX4_readLink 121 = .ok (.iconst 1, 1) := by decide +kernel
theorem dX4_readLink_122 : decode cX4_readLink 122 = .ok (.iload_n 1, 1) := by decide +kernel
theorem dX4_readLink_123 : decode cX4_readLink 123 = .ok (.ishl, 1) := by decide +kernel
theorem dX4_readLink_124 : decode cX4_readLink 124 = .ok (.ior, 1) := by decide +kernel
theorem dX4_readLink_125 : decode cX4_readLink 125 = .ok (.iastore, 1) := by decide +kernel
theorem dX4_readLink_126 : decode cX4_readLink 126 = .ok (.iconst 1, 1) := by decide +kernel
theorem dX4_readLink_127 : decode cX4_readLink 127 = .ok (.ireturn, 1) := by decide +kernel
theorem dX4_readText_0 : decode cX4_readText 0 = .ok (.aload_n 0, 1) := by decide +kernel
theorem dX4_readText_1 : decode cX4_readText 1 = .ok (.iconst 0, 1) := by decide +kernel
theorem dX4_readText_2 : decode cX4_readText 2 = .ok (.putfield 122, 3) := by decide +kernel
theorem dX4_readText_5 : decode cX4_readText 5 = .ok (.aload_n 0, 1) := by decide +kernel
theorem dX4_readText_6 : decode cX4_readText 6 = .ok (.iconst 0, 1) := by decide +kernel
theorem dX4_readText_7 : decode cX4_readText 7 = .ok (.putfield 134, 3) := by decide +kernel
theorem dX4_readText_10 : decode cX4_readText 10 = .ok (.aload_n 0, 1) := by decide +kernel
theorem dX4_readText_11 : decode cX4_readText 11 = .ok (.invokevirtual 140, 3) := by decide +kernel
theorem dX4_readText_14 : decode cX4_readText 14 = .ok (.istore_n 1, 1) := by decide +kernel
theorem dX4_readText_15 : decode cX4_readText 15 = .ok (.iload_n 1, 1) := by decide +kernel
theorem dX4_readText_16 : decode cX4_readText 16 = .ok (.ifCond .eq 29, 3) := by decide +kernel
theorem dX4_readText_19 : decode cX4_readText 19 = .ok (.aload_n 0, 1) := by decide +kernel
theorem dX4_readText_20 : decode cX4_readText 20 = .ok (.getfield 134, 3) := by decide +kernel
theorem dX4_readText_23 : decode cX4_readText 23 = .ok (.bipush 16, 2) := by decide +kernel
theorem dX4_readText_25 : decode cX4_readText 25 = .ok (.if_icmp .ge 20, 3) := by decide +kernel
theorem dX4_readText_28 : decode cX4_readText 28 = .ok (.aload_n 0, 1) := by decide +kernel
theorem dX4_readText_29 : decode cX4_readText 29 = .ok (.bipush 44, 2) := by decide +kernel
theorem dX4_readText_31 : decode cX4_readText 31 = .ok (.invokevirtual 137, 3) := by decide +kernel
theorem dX4_readText_34 : decode cX4_readText 34 = .ok (.ifCond .eq 11, 3) := by decide +kernel
theorem dX4_readText_37 : decode cX4_readText 37 = .ok (.aload_n 0, 1) := by decide +kernel
theorem dX4_readText_38 : decode cX4_readText 38 = .ok (.invokevirtual 140, 3) := by decide +kernel
theorem dX4_readText_41 : decode cX4_readText 41 = .ok (.istore_n 1, 1) := by decide +kernel
theorem dX4_readText_42 : decode cX4_readText 42 = .ok (.goto (-27), 3) := by decide +kernel
theorem dX4_readText_45 : decode cX4_readText 45 = .ok (.iload_n 1, 1) := by decide +kernel
theorem dX4_readText_46 : decode cX4_readText 46 = .ok (.ifCond .eq 14, 3) := by decide +kernel
theorem dX4_readText_49 : decode cX4_readText 49 = .ok (.aload_n 0, 1) := by decide +kernel
theorem dX4_readText_50 : decode cX4_readText 50 = .ok (.getfield 122, 3) := by decide +kernel
theorem dX4_readText_53 : decode cX4_readText 53 = .ok (.aload_n 0, 1) := by decide +kernel
theorem dX4_readText_54 : decode cX4_readText 54 = .ok (.getfield 119, 3) := by decide +kernel
theorem dX4_readText_57 : decode cX4_readText 57 = .ok (.if_icmp .ne 5, 3) := by decide +kernel
theorem dX4_readText_60 : decode cX4_readText 60 = .ok (.iload_n 1, 1) := by decide +kernel
theorem dX4_readText_61 : decode cX4_readText 61 = .ok (.ireturn, 1) := by decide +kernel
theorem dX4_readText_62 : decode cX4_readText 62 = .ok (.aload_n 0, 1) := by decide +kernel
theorem dX4_readText_63 : decode cX4_readText 63 = .ok (.getfield 134, 3) := by decide +kernel
theorem dX4_readText_66 : decode cX4_readText 66 = .ok (.iconst 1, 1) := by decide +kernel
theorem dX4_readText_67 : decode cX4_readText 67 = .ok (.if_icmp .le 23, 3) := by decide +kernel
theorem dX4_readText_70 : decode cX4_readText 70 = .ok (.aload_n 0, 1) := by decide +kernel
theorem dX4_readText_71 : decode cX4_readText 71 = .ok (.bipush 59, 2) := by decide +kernel
theorem dX4_readText_73 : decode cX4_readText 73 = .ok (.invokevirtual 137, 3) := by decide +kernel
theorem dX4_readText_76 : decode cX4_readText 76 = .ok (.ifCond .eq 14, 3) := by decide +kernel
theorem dX4_readText_79 : decode cX4_readText 79 = .ok (.aload_n 0, 1) := by decide +kernel
theorem dX4_readText_80 : decode cX4_readText 80 = .ok (.invokevirtual 144, 3) := by decide +kernel
theorem dX4_readText_83 : decode cX4_readText 83 = .ok (.ifCond .eq 7, 3) := by decide +kernel
theorem dX4_readText_86 : decode cX4_readText 86 = .ok (.iconst 1, 1) := by decide +kernel
theorem dX4_readText_87 : decode cX4_readText 87 = .ok (.goto 4, 3) := by decide +kernel
theorem dX4_readText_90 : decode cX4_readText 90 = .ok (.iconst 0, 1) := by decide +kernel
theorem dX4_readText_91 : decode cX4_readText 91 = .ok (.istore_n 1, 1) := by decide +kernel
theorem dX4_readText_92 : decode cX4_readText 92 = .ok (.iload_n 1, 1) := by decide +kernel
theorem dX4_readText_93 : decode cX4_readText 93 = .ok (.ifCond .eq 20, 3) := by decide +kernel
theorem dX4_readText_96 : decode cX4_readText 96 = .ok (.aload_n 0, 1) := by decide +kernel
theorem dX4_readText_97 : decode cX4_readText 97 = .ok (.bipush 44, 2) := by decide +kernel
theorem dX4_readText_99 : decode cX4_readText 99 = .ok (.invokevirtual 137, 3) := by decide +kernel
theorem dX4_readText_102 : decode cX4_readText 102 = .ok (.ifCond .eq 11, 3) := by decide +kernel
theorem dX4_readText_105 : decode cX4_readText 105 = .ok (.aload_n 0, 1) := by decide +kernel
theorem dX4_readText_106 : decode cX4_readText 106 = .ok (.invokevirtual 144, 3) := by decide +kernel
theorem dX4_readText_109 : decode cX4_readText 109 = .ok (.istore_n 1, 1) := by decide +kernel
theorem dX4_readText_110 : decode cX4_readText 110 = .ok (.goto (-18), 3) := by decide +kernel
theorem dX4_readText_113 : decode cX4_readText 113 = .ok (.iload_n 1, 1) := by decide +kernel
theorem dX4_readText_114 : decode cX4_readText 114 = .ok (.ifCond .eq 18, 3) := by decide +kernel
theorem dX4_readText_117 : decode cX4_readText 117 = .ok (.aload_n 0, 1) := by decide +kernel
theorem dX4_readText_118 : decode cX4_readText 118 = .ok (.getfield 122, 3) := by decide +kernel
theorem dX4_readText_121 : decode cX4_readText 121 = .ok (.aload_n 0, 1) := by decide +kernel
theorem dX4_readText_122 : decode cX4_readText 122 = .ok (.getfield 119, 3) := by decide +kernel
theorem dX4_readText_125 : decode cX4_readText 125 = .ok (.if_icmp .ne 7, 3) := by decide +kernel
theorem dX4_readText_128 : decode cX4_readText 128 = .ok (.iconst 1, 1) := by decide +kernel
theorem dX4_readText_129 : decode cX4_readText 129 = .ok (.goto 4, 3) := by decide +kernel
theorem dX4_readText_132 : decode cX4_readText 132 = .ok (.iconst 0, 1) := by decide +kernel
theorem dX4_readText_133 : decode cX4_readText 133 = .ok (.ireturn, 1) := by decide +kernel
theorem dX4_readMesh_0 : decode cX4_readMesh 0 = .ok (.aload_n 0, 1) := by decide +kernel
theorem dX4_readMesh_1 : decode cX4_readMesh 1 = .ok (.invokevirtual 147, 3) := by decide +kernel
theorem dX4_readMesh_4 : decode cX4_readMesh 4 = .ok (.ifCond .ne 11, 3) := by decide +kernel
theorem dX4_readMesh_7 : decode cX4_readMesh 7 = .ok (.bipush (-100), 2) := by decide +kernel
theorem dX4_readMesh_9 : decode cX4_readMesh 9 = .ok (.aload_n 0, 1) := by decide +kernel
theorem dX4_readMesh_10 : decode cX4_readMesh 10 = .ok (.getfield 122, 3) := by decide +kernel
theorem dX4_readMesh_13 : decode cX4_readMesh 13 = .ok (.isub, 1) := by decide +kernel
theorem dX4_readMesh_14 : decode cX4_readMesh 14 = .ok (.ireturn, 1) := by decide +kernel
theorem dX4_readMesh_15 : decode cX4_readMesh 15 = .ok (.aload_n 0, 1) := by decide +kernel
theorem dX4_readMesh_16 : decode cX4_readMesh 16 = .ok (.invokevirtual 98, 3) := by decide +kernel
theorem dX4_readMesh_19 : decode cX4_readMesh 19 = .ok (.iconst 0, 1) := by decide +kernel
theorem dX4_readMesh_20 : decode cX4_readMesh 20 = .ok (.istore_n 1, 1) := by decide +kernel
theorem dX4_readMesh_21 : decode cX4_readMesh 21 = .ok (.iload_n 1, 1) := by decide +kernel
theorem dX4_readMesh_22 : decode cX4_readMesh 22 = .ok (.bipush 16, 2) := by decide +kernel
theorem dX4_readMesh_24 : decode cX4_readMesh 24 = .ok (.if_icmp .ge 65, 3) := by decide +kernel
theorem dX4_readMesh_27 : decode cX4_readMesh 27 = .ok (.aload_n 0, 1) := by decide +kernel
theorem dX4_readMesh_28 : decode cX4_readMesh 28 = .ok (.iload_n 1, 1) := by decide +kernel
theorem dX4_readMesh_29 : decode cX4_readMesh 29 = .ok (.iconst 0, 1) := by decide +kernel
theorem dX4_readMesh_30 : decode cX4_readMesh 30 = .ok (.iconst 0, 1) := by decide +kernel
theorem dX4_readMesh_31 : decode cX4_readMesh 31 = .ok (.invokevirtual 62, 3) := by decide +kernel
theorem dX4_readMesh_34 : decode cX4_readMesh 34 = .ok (.aload_n 0, 1) := by decide +kernel
theorem dX4_readMesh_35 : decode cX4_readMesh 35 = .ok (.iload_n 1, 1) := by decide +kernel
theorem dX4_readMesh_36 : decode cX4_readMesh 36 = .ok (.bipush 8, 2) := by decide +kernel
theorem dX4_readMesh_38 : decode cX4_readMesh 38 = .ok (.iconst 0, 1) := by decide +kernel
theorem dX4_readMesh_39 : decode cX4_readMesh 39 = .ok (.invokevirtual 62, 3) := by decide +kernel
theorem dX4_readMesh_42 : decode cX4_readMesh 42 = .ok (.iload_n 1, 1) := by decide +kernel
theorem dX4_readMesh_43 : decode cX4_readMesh 43 = .ok (.aload_n 0, 1) := by decide +kernel
theorem dX4_readMesh_44 : decode cX4_readMesh 44 = .ok (.getfield 134, 3) := by decide +kernel
theorem dX4_readMesh_47 : decode cX4_readMesh 47 = .ok (.if_icmp .ge 36, 3) := by decide +kernel
theorem dX4_readMesh_50 : decode cX4_readMesh 50 = .ok (.aload_n 0, 1) := by decide +kernel
theorem dX4_readMesh_51 : decode cX4_readMesh 51 = .ok (.iload_n 1, 1) := by decide +kernel
theorem dX4_readMesh_52 : decode cX4_readMesh 52 = .ok (.bipush 100, 2) := by decide +kernel
theorem dX4_readMesh_54 : decode cX4_readMesh 54 = .ok (.aload_n 0, 1) := by decide +kernel
theorem dX4_readMesh_55 : decode cX4_readMesh 55 = .ok (.getfield 26, 3) := by decide +kernel
theorem dX4_readMesh_58 : decode cX4_readMesh 58 = .ok (.iload_n 1, 1) := by decide +kernel
theorem dX4_readMesh_59 : decode cX4_readMesh 59 = .ok (.iaload, 1) := by decide +kernel
theorem dX4_readMesh_60 : decode cX4_readMesh 60 = .ok (.imul, 1) := by decide +kernel
theorem dX4_readMesh_61 : decode cX4_readMesh 61 = .ok (.aload_n 0, 1) := by decide +kernel
theorem dX4_readMesh_62 : decode cX4_readMesh 62 = .ok (.getfield 29, 3) := by decide +kernel
theorem dX4_readMesh_65 : decode cX4_readMesh 65 = .ok (.iload_n 1, 1) := by decide +kernel
theorem dX4_readMesh_66 : decode cX4_readMesh 66 = .ok (.iaload, 1) := by decide +kernel
theorem dX4_readMesh_67 : decode cX4_readMesh 67 = .ok (.invokevirtual 101, 3) := by decide +kernel
theorem dX4_readMesh_70 : decode cX4_readMesh 70 = .ok (.aload_n 0, 1) := by decide +kernel
theorem dX4_readMesh_71 : decode cX4_readMesh 71 = .ok (.iload_n 1, 1) := by decide +kernel
theorem dX4_readMesh_72 : decode cX4_readMesh 72 = .ok (.bipush 8, 2) := by decide +kernel
theorem dX4_readMesh_74 : decode cX4_readMesh 74 = .ok (.aload_n 0, 1) := by decide +kernel
theorem dX4_readMesh_75 : decode cX4_readMesh 75 = .ok (.getfield 32, 3) := by decide +kernel
theorem dX4_readMesh_78 : decode cX4_readMesh 78 = .ok (.iload_n 1, 1) := by decide +kernel
theorem dX4_readMesh_79 : decode cX4_readMesh 79 = .ok (.iaload, 1) := by decide +kernel
theorem dX4_readMesh_80 : decode cX4_readMesh 80 = .ok (.invokevirtual 62, 3) := by decide +kernel
theorem dX4_readMesh_83 : decode cX4_readMesh 83 = .ok (.iinc 1 1, 3) := by decide +kernel
theorem dX4_readMesh_86 : decode cX4_readMesh 86 = .ok (.goto (-65), 3) := by decide +kernel
theorem dX4_readMesh_89 : decode cX4_readMesh 89 = .ok (.aload_n 0, 1) := by decide +kernel
theorem dX4_readMesh_90 : decode cX4_readMesh 90 = .ok (.getfield 134, 3) := by decide +kernel
theorem dX4_readMesh_93 : decode cX4_readMesh 93 = .ok (.ireturn, 1) := by decide +kernel
theorem dX4_undo_0 : decode cX4_undo 0 = .ok (.aload_n 0, 1) := by decide +kernel
theorem dX4_undo_1 : decode cX4_undo 1 = .ok (.getfield 43, 3) := by decide +kernel
theorem dX4_undo_4 : decode cX4_undo 4 = .ok (.ifCond .ne 6, 3) := by decide +kernel
theorem dX4_undo_7 : decode cX4_undo 7 = .ok (.bipush (-5), 2) := by decide +kernel
theorem dX4_undo_9 : decode cX4_undo 9 = .ok (.ireturn, 1) := by decide +kernel
theorem dX4_undo_10 : decode cX4_undo 10 = .ok (.aload_n 0, 1) := by decide +kernel
theorem dX4_undo_11 : decode cX4_undo 11 = .ok (.dup, 1) := by decide +kernel
theorem dX4_undo_12 : decode cX4_undo 12 = .ok (.getfield 43, 3) := by decide +kernel
theorem dX4_undo_15 : decode cX4_undo 15 = .ok (.iconst 1, 1) := by decide +kernel
theorem dX4_undo_16 : decode cX4_undo 16 = .ok (.isub, 1) := by decide +kernel
theorem dX4_undo_17 : decode cX4_undo 17 = .ok (.putfield 43, 3) := by decide +kernel
theorem dX4_undo_20 : decode cX4_undo 20 = .ok (.aload_n 0, 1) := by decide +kernel
theorem dX4_undo_21 : decode cX4_undo 21 = .ok (.getfield 13, 3) := by decide +kernel
theorem dX4_undo_24 : decode cX4_undo 24 = .ok (.sipush 152, 3) := by decide +kernel
theorem dX4_undo_27 : decode cX4_undo 27 = .ok (.aload_n 0, 1) := by decide +kernel
theorem dX4_undo_28 : decode cX4_undo 28 = .ok (.getfield 43, 3) := by decide +kernel
theorem dX4_undo_31 : decode cX4_undo 31 = .ok (.imul, 1) := by decide +kernel
theorem dX4_undo_32 : decode cX4_undo 32 = .ok (.aload_n 0, 1) := by decide +kernel
theorem dX4_undo_33 : decode cX4_undo 33 = .ok (.getfield 7, 3) := by decide +kernel
theorem dX4_undo_36 : decode cX4_undo 36 = .ok (.iconst 0, 1) := by decide +kernel
theorem dX4_undo_37 : decode cX4_undo 37 = .ok (.invokestatic 47, 3) := by decide +kernel
theorem dX4_undo_40 : decode cX4_undo 40 = .ok (.aload_n 0, 1) := by decide +kernel
theorem dX4_undo_41 : decode cX4_undo 41 = .ok (.getfield 43, 3) := by decide +kernel
theorem dX4_undo_44 : decode cX4_undo 44 = .ok (.ireturn, 1) := by decide +kernel
theorem dX4_keep_0 : decode cX4_keep 0 = .ok (.aload_n 0, 1) := by decide +kernel
theorem dX4_keep_1 : decode cX4_keep 1 = .ok (.getfield 7, 3) := by decide +kernel
theorem dX4_keep_4 : decode cX4_keep 4 = .ok (.iconst 0, 1) := by decide +kernel
theorem dX4_keep_5 : decode cX4_keep 5 = .ok (.aload_n 0, 1) := by decide +kernel
theorem dX4_keep_6 : decode cX4_keep 6 = .ok (.getfield 16, 3) := by decide +kernel
theorem dX4_keep_9 : decode cX4_keep 9 = .ok (.iconst 0, 1) := by decide +kernel
theorem dX4_keep_10 : decode cX4_keep 10 = .ok (.invokestatic 47, 3) := by decide +kernel
theorem dX4_keep_13 : decode cX4_keep 13 = .ok (.aload_n 0, 1) := by decide +kernel
theorem dX4_keep_14 : decode cX4_keep 14 = .ok (.iconst 1, 1) := by decide +kernel
theorem dX4_keep_15 : decode cX4_keep 15 = .ok (.putfield 150, 3) := by decide +kernel
theorem dX4_keep_18 : decode cX4_keep 18 = .ok (.aload_n 0, 1) := by decide +kernel
theorem dX4_keep_19 : decode cX4_keep 19 = .ok (.iconst 0, 1) := by decide +kernel
theorem dX4_keep_20 : decode cX4_keep 20 = .ok (.invokevirtual 51, 3) := by decide +kernel
theorem dX4_keep_23 : decode cX4_keep 23 = .ok (.invokestatic 55, 3) := by decide +kernel
theorem dX4_keep_26 : decode cX4_keep 26 = .ok (.ireturn, 1) := by decide +kernel
theorem dX4_restore_0 : decode cX4_restore 0 = .ok (.aload_n 0, 1) := by decide +kernel
theorem dX4_restore_1 : decode cX4_restore 1 = .ok (.getfield 150, 3) := by decide +kernel
theorem dX4_restore_4 : decode cX4_restore 4 = .ok (.ifCond .ne 6, 3) := by decide +kernel
theorem dX4_restore_7 : decode cX4_restore 7 = .ok (.bipush (-5), 2) := by decide +kernel
theorem dX4_restore_9 : decode cX4_restore 9 = .ok (.ireturn, 1) := by decide +kernel
theorem dX4_restore_10 : decode cX4_restore 10 = .ok (.aload_n 0, 1) := by decide +kernel
theorem dX4_restore_11 : decode cX4_restore 11 = .ok (.invokevirtual 98, 3) := by decide +kernel
theorem dX4_restore_14 : decode cX4_restore 14 = .ok (.aload_n 0, 1) := by decide +kernel
theorem dX4_restore_15 : decode cX4_restore 15 = .ok (.getfield 16, 3) := by decide +kernel
theorem dX4_restore_18 : decode cX4_restore 18 = .ok (.iconst 0, 1) := by decide +kernel
theorem dX4_restore_19 : decode cX4_restore 19 = .ok (.aload_n 0, 1) := by decide +kernel
theorem dX4_restore_20 : decode cX4_restore 20 = .ok (.getfield 7, 3) := by decide +kernel
theorem dX4_restore_23 : decode cX4_restore 23 = .ok (.iconst 0, 1) := by decide +kernel
theorem dX4_restore_24 : decode cX4_restore 24 = .ok (.invokestatic 47, 3) := by decide +kernel
theorem dX4_restore_27 : decode cX4_restore 27 = .ok (.aload_n 0, 1) := by decide +kernel
theorem dX4_restore_28 : decode cX4_restore 28 = .ok (.iconst 0, 1) := by decide +kernel
theorem dX4_restore_29 : decode cX4_restore 29 = .ok (.invokevirtual 51, 3) := by decide +kernel
theorem dX4_restore_32 : decode cX4_restore 32 = .ok (.invokestatic 55, 3) := by decide +kernel
theorem dX4_restore_35 : decode cX4_restore 35 = .ok (.ireturn, 1) := by decide +kernel
theorem dX4_lamp_0 : decode cX4_lamp 0 = .ok (.aload_n 0, 1) := by decide +kernel
theorem dX4_lamp_1 : decode cX4_lamp 1 = .ok (.iload_n 1, 1) := by decide +kernel
theorem dX4_lamp_2 : decode cX4_lamp 2 = .ok (.invokevirtual 104, 3) := by decide +kernel
theorem dX4_lamp_5 : decode cX4_lamp 5 = .ok (.ifCond .ne 5, 3) := by decide +kernel
theorem dX4_lamp_8 : decode cX4_lamp 8 = .ok (.iconst (-1), 1) := by decide +kernel
theorem dX4_lamp_9 : decode cX4_lamp 9 = .ok (.ireturn, 1) := by decide +kernel
theorem dX4_lamp_10 : decode cX4_lamp 10 = .ok (.iload_n 2, 1) := by decide +kernel
theorem dX4_lamp_11 : decode cX4_lamp 11 = .ok (.tableswitch 124 0 9 #[53, 60, 67, 74, 81, 88, 96, 104, 110, 116], 53) := by decide +kernel
theorem dX4_lamp_64 : decode cX4_lamp 64 = .ok (.aload_n 0, 1) := by decide +kernel
theorem dX4_lamp_65 : decode cX4_lamp 65 = .ok (.iload_n 1, 1) := by decide +kernel
theorem dX4_lamp_66 : decode cX4_lamp 66 = .ok (.iconst 1, 1) := by decide +kernel
theorem dX4_lamp_67 : decode cX4_lamp 67 = .ok (.invokevirtual 39, 3) := by decide +kernel
theorem dX4_lamp_70 : decode cX4_lamp 70 = .ok (.ireturn, 1) := by decide +kernel
theorem dX4_lamp_71 : decode cX4_lamp 71 = .ok (.aload_n 0, 1) := by decide +kernel
theorem dX4_lamp_72 : decode cX4_lamp 72 = .ok (.iload_n 1, 1) := by decide +kernel
theorem dX4_lamp_73 : decode cX4_lamp 73 = .ok (.iconst 2, 1) := by decide +kernel
theorem dX4_lamp_74 : decode cX4_lamp 74 = .ok (.invokevirtual 39, 3) := by decide +kernel
theorem dX4_lamp_77 : decode cX4_lamp 77 = .ok (.ireturn, 1) := by decide +kernel
theorem dX4_lamp_78 : decode cX4_lamp 78 = .ok (.aload_n 0, 1) := by decide +kernel
theorem dX4_lamp_79 : decode cX4_lamp 79 = .ok (.iload_n 1, 1) := by decide +kernel
theorem dX4_lamp_80 : decode cX4_lamp 80 = .ok (.iconst 3, 1) := by decide +kernel
theorem dX4_lamp_81 : decode cX4_lamp 81 = .ok (.invokevirtual 39, 3) := by decide +kernel
theorem dX4_lamp_84 : decode cX4_lamp 84 = .ok (.ireturn, 1) := by decide +kernel
theorem dX4_lamp_85 : decode cX4_lamp 85 = .ok (.aload_n 0, 1) := by decide +kernel
theorem dX4_lamp_86 : decode cX4_lamp 86 = .ok (.iload_n 1, 1) := by decide +kernel
theorem dX4_lamp_87 : decode cX4_lamp 87 = .ok (.iconst 4, 1) := by decide +kernel
theorem dX4_lamp_88 : decode cX4_lamp 88 = .ok (.invokevirtual 39, 3) := by decide +kernel
theorem dX4_lamp_91 : decode cX4_lamp 91 = .ok (.ireturn, 1) := by decide +kernel
theorem dX4_lamp_92 : decode cX4_lamp 92 = .ok (.aload_n 0, 1) := by decide +kernel
theorem dX4_lamp_93 : decode cX4_lamp 93 = .ok (.iload_n 1, 1) := by decide +kernel
theorem dX4_lamp_94 : decode cX4_lamp 94 = .ok (.iconst 5, 1) := by decide +kernel
theorem dX4_lamp_95 : decode cX4_lamp 95 = .ok (.invokevirtual 39, 3) := by decide +kernel
theorem dX4_lamp_98 : decode cX4_lamp 98 = .ok (.ireturn, 1) := by decide +kernel
theorem dX4_lamp_99 : decode cX4_lamp 99 = .ok (.aload_n 0, 1) := by decide +kernel
theorem dX4_lamp_100 : decode cX4_lamp 100 = .ok (.iload_n 1, 1) := by decide +kernel
theorem dX4_lamp_101 : decode cX4_lamp 101 = .ok (.bipush 6, 2) := by decide +kernel
theorem dX4_lamp_103 : decode cX4_lamp 103 = .ok (.invokevirtual 39, 3) := by decide +kernel
theorem dX4_lamp_106 : decode cX4_lamp 106 = .ok (.ireturn, 1) := by decide +kernel
theorem dX4_lamp_107 : decode cX4_lamp 107 = .ok (.aload_n 0, 1) := by decide +kernel
theorem dX4_lamp_108 : decode cX4_lamp 108 = .ok (.iload_n 1, 1) := by decide +kernel
theorem dX4_lamp_109 : decode cX4_lamp 109 = .ok (.bipush 8, 2) := by decide +kernel
theorem dX4_lamp_111 : decode cX4_lamp 111 = .ok (.invokevirtual 39, 3) := by decide +kernel
theorem dX4_lamp_114 : decode cX4_lamp 114 = .ok (.ireturn, 1) := by decide +kernel
theorem dX4_lamp_115 : decode cX4_lamp 115 = .ok (.aload_n 0, 1) := by decide +kernel
theorem dX4_lamp_116 : decode cX4_lamp 116 = .ok (.iload_n 1, 1) := by decide +kernel
theorem dX4_lamp_117 : decode cX4_lamp 117 = .ok (.invokevirtual 89, 3) := by decide +kernel
theorem dX4_lamp_120 : decode cX4_lamp 120 = .ok (.ireturn, 1) := by decide +kernel
theorem dX4_lamp_121 : decode cX4_lamp 121 = .ok (.aload_n 0, 1) := by decide +kernel
theorem dX4_lamp_122 : decode cX4_lamp 122 = .ok (.iload_n 1, 1) := by decide +kernel
theorem dX4_lamp_123 : decode cX4_lamp 123 = .ok (.invokevirtual 154, 3) := by decide +kernel
theorem dX4_lamp_126 : decode cX4_lamp 126 = .ok (.ireturn, 1) := by decide +kernel
theorem dX4_lamp_127 : decode cX4_lamp 127 = .ok (.aload_n 0, 1) := by decide +kernel
theorem dX4_lamp_128 : decode cX4_lamp 128 = .ok (.iload_n 1, 1) := by decide +kernel
theorem dX4_lamp_129 : decode cX4_lamp 129 = .ok (.bipush 7, 2) := by decide +kernel
theorem dX4_lamp_131 : decode cX4_lamp 131 = .ok (.invokevirtual 39, 3) := by decide +kernel
theorem dX4_lamp_134 : decode cX4_lamp 134 = .ok (.ireturn, 1) := by decide +kernel
theorem dX4_lamp_135 : decode cX4_lamp 135 = .ok (.bipush (-2), 2) := by decide +kernel
theorem dX4_lamp_137 : decode cX4_lamp 137 = .ok (.ireturn, 1) := by decide +kernel
theorem dX4_apart_0 : decode cX4_apart 0 = .ok (.aload_n 0, 1) := by decide +kernel
theorem dX4_apart_1 : decode cX4_apart 1 = .ok (.iload_n 1, 1) := by decide +kernel
theorem dX4_apart_2 : decode cX4_apart 2 = .ok (.invokevirtual 104, 3) := by decide +kernel
theorem dX4_apart_5 : decode cX4_apart 5 = .ok (.ifCond .eq 20, 3) := by decide +kernel
theorem dX4_apart_8 : decode cX4_apart 8 = .ok (.aload_n 0, 1) := by decide +kernel
theorem dX4_apart_9 : decode cX4_apart 9 = .ok (.iload_n 2, 1) := by decide +kernel
theorem dX4_apart_10 : decode cX4_apart 10 = .ok (.invokevirtual 104, 3) := by decide +kernel
theorem dX4_apart_13 : decode cX4_apart 13 = .ok (.ifCond .eq 12, 3) := by decide +kernel
theorem dX4_apart_16 : decode cX4_apart 16 = .ok (.aload_n 0, 1) := by decide +kernel
theorem dX4_apart_17 : decode cX4_apart 17 = .ok (.iload_n 1, 1) := by decide +kernel
theorem dX4_apart_18 : decode cX4_apart 18 = .ok (.iload_n 2, 1) := by decide +kernel
theorem dX4_apart_19 : decode cX4_apart 19 = .ok (.invokevirtual 92, 3) := by decide +kernel
theorem dX4_apart_22 : decode cX4_apart 22 = .ok (.goto 4, 3) := by decide +kernel
theorem dX4_apart_25 : decode cX4_apart 25 = .ok (.iconst (-1), 1) := by decide +kernel
theorem dX4_apart_26 : decode cX4_apart 26 = .ok (.ireturn, 1) := by decide +kernel
theorem dX4_next_0 : decode cX4_next 0 = .ok (.iload_n 1, 1) := by decide +kernel
theorem dX4_next_1 : decode cX4_next 1 = .ok (.iconst 0, 1) := by decide +kernel
theorem dX4_next_2 : decode cX4_next 2 = .ok (.iconst 1, 1) := by decide +kernel
theorem dX4_next_3 : decode cX4_next 3 = .ok (.invokestatic 35, 3) := by decide +kernel
theorem dX4_next_6 : decode cX4_next 6 = .ok (.ifCond .ne 6, 3) := by decide +kernel
theorem dX4_next_9 : decode cX4_next 9 = .ok (.bipush (-2), 2) := by decide +kernel
theorem dX4_next_11 : decode cX4_next 11 = .ok (.ireturn, 1) := by decide +kernel
theorem dX4_next_12 : decode cX4_next 12 = .ok (.aload_n 0, 1) := by decide +kernel
theorem dX4_next_13 : decode cX4_next 13 = .ok (.invokevirtual 86, 3) := by decide +kernel
theorem dX4_next_16 : decode cX4_next 16 = .ok (.ifCond .ne 6, 3) := by decide +kernel
theorem dX4_next_19 : decode cX4_next 19 = .ok (.bipush (-5), 2) := by decide +kernel
theorem dX4_next_21 : decode cX4_next 21 = .ok (.ireturn, 1) := by decide +kernel
theorem dX4_next_22 : decode cX4_next 22 = .ok (.aload_n 0, 1) := by decide +kernel
theorem dX4_next_23 : decode cX4_next 23 = .ok (.getfield 7, 3) := by decide +kernel
theorem dX4_next_26 : decode cX4_next 26 = .ok (.iconst 0, 1) := by decide +kernel
theorem dX4_next_27 : decode cX4_next 27 = .ok (.aload_n 0, 1) := by decide +kernel
theorem dX4_next_28 : decode cX4_next 28 = .ok (.getfield 19, 3) := by decide +kernel
theorem dX4_next_31 : decode cX4_next 31 = .ok (.iconst 0, 1) := by decide +kernel
theorem dX4_next_32 : decode cX4_next 32 = .ok (.invokestatic 47, 3) := by decide +kernel
theorem dX4_next_35 : decode cX4_next 35 = .ok (.iconst 0, 1) := by decide +kernel
theorem dX4_next_36 : decode cX4_next 36 = .ok (.istore_n 2, 1) := by decide +kernel
theorem dX4_next_37 : decode cX4_next 37 = .ok (.iconst 0, 1) := by decide +kernel
theorem dX4_next_38 : decode cX4_next 38 = .ok (.istore_n 3, 1) := by decide +kernel
theorem dX4_next_39 : decode cX4_next 39 = .ok (.iload_n 3, 1) := by decide +kernel
theorem dX4_next_40 : decode cX4_next 40 = .ok (.ifCond .ne 14, 3) := by decide +kernel
theorem dX4_next_43 : decode cX4_next 43 = .ok (.aload_n 0, 1) := by decide +kernel
theorem dX4_next_44 : decode cX4_next 44 = .ok (.invokevirtual 83, 3) := by decide +kernel
theorem dX4_next_47 : decode cX4_next 47 = .ok (.istore_n 3, 1) := by decide +kernel
theorem dX4_next_48 : decode cX4_next 48 = .ok (.iinc 2 1, 3) := by decide +kernel
theorem dX4_next_51 : decode cX4_next 51 = .ok (.goto (-12), 3) := by decide +kernel
theorem dX4_next_54 : decode cX4_next 54 = .ok (.aload_n 0, 1) := by decide +kernel
theorem dX4_next_55 : decode cX4_next 55 = .ok (.getfield 19, 3) := by decide +kernel
theorem dX4_next_58 : decode cX4_next 58 = .ok (.iconst 0, 1) := by decide +kernel
theorem dX4_next_59 : decode cX4_next 59 = .ok (.aload_n 0, 1) := by decide +kernel
theorem dX4_next_60 : decode cX4_next 60 = .ok (.getfield 7, 3) := by decide +kernel
theorem dX4_next_63 : decode cX4_next 63 = .ok (.iconst 0, 1) := by decide +kernel
theorem dX4_next_64 : decode cX4_next 64 = .ok (.invokestatic 47, 3) := by decide +kernel
theorem dX4_next_67 : decode cX4_next 67 = .ok (.iload_n 1, 1) := by decide +kernel
theorem dX4_next_68 : decode cX4_next 68 = .ok (.ifCond .ne 7, 3) := by decide +kernel
theorem dX4_next_71 : decode cX4_next 71 = .ok (.iload_n 2, 1) := by decide +kernel
theorem dX4_next_72 : decode cX4_next 72 = .ok (.goto 4, 3) := by decide +kernel
theorem dX4_next_75 : decode cX4_next 75 = .ok (.iload_n 3, 1) := by decide +kernel
theorem dX4_next_76 : decode cX4_next 76 = .ok (.ireturn, 1) := by decide +kernel
theorem dX4_untilTogether_0 : decode cX4_untilTogether 0 = .ok (.aload_n 0, 1) := by decide +kernel
theorem dX4_untilTogether_1 : decode cX4_untilTogether 1 = .ok (.invokevirtual 86, 3) := by decide +kernel
theorem dX4_untilTogether_4 : decode cX4_untilTogether 4 = .ok (.ifCond .ne 6, 3) := by decide +kernel
theorem dX4_untilTogether_7 : decode cX4_untilTogether 7 = .ok (.bipush (-5), 2) := by decide +kernel
theorem dX4_untilTogether_9 : decode cX4_untilTogether 9 = .ok (.ireturn, 1) := by decide +kernel
theorem dX4_untilTogether_10 : decode cX4_untilTogether 10 = .ok (.iconst 0, 1) := by decide +kernel
theorem dX4_untilTogether_11 : decode cX4_untilTogether 11 = .ok (.istore_n 1, 1) := by decide +kernel
theorem dX4_untilTogether_12 : decode cX4_untilTogether 12 = .ok (.iload_n 1, 1) := by decide +kernel
theorem dX4_untilTogether_13 : decode cX4_untilTogether 13 = .ok (.sipush 2000, 3) := by decide +kernel
theorem dX4_untilTogether_16 : decode cX4_untilTogether 16 = .ok (.if_icmp .ge 21, 3) := by decide +kernel
theorem dX4_untilTogether_19 : decode cX4_untilTogether 19 = .ok (.aload_n 0, 1) := by decide +kernel
theorem dX4_untilTogether_20 : decode cX4_untilTogether 20 = .ok (.invokevirtual 157, 3) := by decide +kernel
theorem dX4_untilTogether_23 : decode cX4_untilTogether 23 = .ok (.ifCond .ne 14, 3) := by decide +kernel
theorem dX4_untilTogether_26 : decode cX4_untilTogether 26 = .ok (.aload_n 0, 1) := by decide +kernel
theorem dX4_untilTogether_27 : decode cX4_untilTogether 27 = .ok (.invokevirtual 83, 3) := by decide +kernel
theorem dX4_untilTogether_30 : decode cX4_untilTogether 30 = .ok (.pop, 1) := by decide +kernel
theorem dX4_untilTogether_31 : decode cX4_untilTogether 31 = .ok (.iinc 1 1, 3) := by decide +kernel
theorem dX4_untilTogether_34 : decode cX4_untilTogether 34 = .ok (.goto (-22), 3) := by decide +kernel
theorem dX4_untilTogether_37 : decode cX4_untilTogether 37 = .ok (.aload_n 0, 1) := by decide +kernel
theorem dX4_untilTogether_38 : decode cX4_untilTogether 38 = .ok (.invokevirtual 157, 3) := by decide +kernel
theorem dX4_untilTogether_41 : decode cX4_untilTogether 41 = .ok (.ifCond .eq 7, 3) := by decide +kernel
theorem dX4_untilTogether_44 : decode cX4_untilTogether 44 = .ok (.iload_n 1, 1) := by decide +kernel
theorem dX4_untilTogether_45 : decode cX4_untilTogether 45 = .ok (.goto 5, 3) := by decide +kernel
theorem dX4_untilTogether_48 : decode cX4_untilTogether 48 = .ok (.bipush (-5), 2) := by decide +kernel
theorem dX4_untilTogether_50 : decode cX4_untilTogether 50 = .ok (.ireturn, 1) := by decide +kernel
theorem dX4_togetherIn_0 : decode cX4_togetherIn 0 = .ok (.aload_n 0, 1) := by decide +kernel
theorem dX4_togetherIn_1 : decode cX4_togetherIn 1 = .ok (.getfield 7, 3) := by decide +kernel
theorem dX4_togetherIn_4 : decode cX4_togetherIn 4 = .ok (.iconst 0, 1) := by decide +kernel
theorem dX4_togetherIn_5 : decode cX4_togetherIn 5 = .ok (.aload_n 0, 1) := by decide +kernel
theorem dX4_togetherIn_6 : decode cX4_togetherIn 6 = .ok (.getfield 19, 3) := by decide +kernel
theorem dX4_togetherIn_9 : decode cX4_togetherIn 9 = .ok (.iconst 0, 1) := by decide +kernel
theorem dX4_togetherIn_10 : decode cX4_togetherIn 10 = .ok (.invokestatic 47, 3) := by decide +kernel
theorem dX4_togetherIn_13 : decode cX4_togetherIn 13 = .ok (.aload_n 0, 1) := by decide +kernel
theorem dX4_togetherIn_14 : decode cX4_togetherIn 14 = .ok (.invokevirtual 160, 3) := by decide +kernel
theorem dX4_togetherIn_17 : decode cX4_togetherIn 17 = .ok (.istore_n 1, 1) := by decide +kernel
theorem dX4_togetherIn_18 : decode cX4_togetherIn 18 = .ok (.aload_n 0, 1) := by decide +kernel
theorem dX4_togetherIn_19 : decode cX4_togetherIn 19 = .ok (.getfield 19, 3) := by decide +kernel
theorem dX4_togetherIn_22 : decode cX4_togetherIn 22 = .ok (.iconst 0, 1) := by decide +kernel
theorem dX4_togetherIn_23 : decode cX4_togetherIn 23 = .ok (.aload_n 0, 1) := by decide +kernel
theorem dX4_togetherIn_24 : decode cX4_togetherIn 24 = .ok (.getfield 7, 3) := by decide +kernel
theorem dX4_togetherIn_27 : decode cX4_togetherIn 27 = .ok (.iconst 0, 1) := by decide +kernel
theorem dX4_togetherIn_28 : decode cX4_togetherIn 28 = .ok (.invokestatic 47, 3) := by decide +kernel
theorem dX4_togetherIn_31 : decode cX4_togetherIn 31 = .ok (.iload_n 1, 1) := by decide +kernel
theorem dX4_togetherIn_32 : decode cX4_togetherIn 32 = .ok (.ireturn, 1) := by decide +kernel
theorem dX4_areRatesUnlike_0 : decode cX4_areRatesUnlike 0 = .ok (.sipush 150, 3) := by decide +kernel
theorem dX4_areRatesUnlike_3 : decode cX4_areRatesUnlike 3 = .ok (.istore_n 1, 1) := by decide +kernel
theorem dX4_areRatesUnlike_4 : decode cX4_areRatesUnlike 4 = .ok (.iconst 0, 1) := by decide +kernel
theorem dX4_areRatesUnlike_5 : decode cX4_areRatesUnlike 5 = .ok (.istore_n 2, 1) := by decide +kernel
theorem dX4_areRatesUnlike_6 : decode cX4_areRatesUnlike 6 = .ok (.iconst 0, 1) := by decide +kernel
theorem dX4_areRatesUnlike_7 : decode cX4_areRatesUnlike 7 = .ok (.istore_n 3, 1) := by decide +kernel
theorem dX4_areRatesUnlike_8 : decode cX4_areRatesUnlike 8 = .ok (.iload_n 3, 1) := by decide +kernel
theorem dX4_areRatesUnlike_9 : decode cX4_areRatesUnlike 9 = .ok (.bipush 16, 2) := by decide +kernel
theorem dX4_areRatesUnlike_11 : decode cX4_areRatesUnlike 11 = .ok (.if_icmp .ge 67, 3) := by decide +kernel
theorem dX4_areRatesUnlike_14 : decode cX4_areRatesUnlike 14 = .ok (.aload_n 0, 1) := by decide +kernel
theorem dX4_areRatesUnlike_15 : decode cX4_areRatesUnlike 15 = .ok (.iload_n 3, 1) := by decide +kernel
theorem dX4_areRatesUnlike_16 : decode cX4_areRatesUnlike 16 = .ok (.invokevirtual 58, 3) := by decide +kernel
theorem dX4_areRatesUnlike_19 : decode cX4_areRatesUnlike 19 = .ok (.ifCond .eq 22, 3) := by decide +kernel
theorem dX4_areRatesUnlike_22 : decode cX4_areRatesUnlike 22 = .ok (.aload_n 0, 1) := by decide +kernel
theorem dX4_areRatesUnlike_23 : decode cX4_areRatesUnlike 23 = .ok (.iload_n 3, 1) := by decide +kernel
theorem dX4_areRatesUnlike_24 : decode cX4_areRatesUnlike 24 = .ok (.iconst 2, 1) := by decide +kernel
theorem dX4_areRatesUnlike_25 : decode cX4_areRatesUnlike 25 = .ok (.invokevirtual 39, 3) := by decide +kernel
theorem dX4_areRatesUnlike_28 : decode cX4_areRatesUnlike 28 = .ok (.iload_n 1, 1) := by decide +kernel
theorem dX4_areRatesUnlike_29 : decode cX4_areRatesUnlike 29 = .ok (.if_icmp .ge 12, 3) := by decide +kernel
theorem dX4_areRatesUnlike_32 : decode cX4_areRatesUnlike 32 = .ok (.aload_n 0, 1) := by decide +kernel
theorem dX4_areRatesUnlike_33 : decode cX4_areRatesUnlike 33 = .ok (.iload_n 3, 1) := by decide +kernel
theorem dX4_areRatesUnlike_34 : decode cX4_areRatesUnlike 34 = .ok (.iconst 2, 1) := by decide +kernel
theorem dX4_areRatesUnlike_35 : decode cX4_areRatesUnlike 35 = .ok (.invokevirtual 39, 3) := by decide +kernel
theorem dX4_areRatesUnlike_38 : decode cX4_areRatesUnlike 38 = .ok (.goto 4, 3) := by decide +kernel
theorem dX4_areRatesUnlike_41 : decode cX4_areRatesUnlike 41 = .ok (.iload_n 1, 1) := by decide +kernel
theorem dX4_areRatesUnlike_42 : decode cX4_areRatesUnlike 42 = .ok (.istore_n 1, 1) := by decide +kernel
theorem dX4_areRatesUnlike_43 : decode cX4_areRatesUnlike 43 = .ok (.aload_n 0, 1) := by decide +kernel
theorem dX4_areRatesUnlike_44 : decode cX4_areRatesUnlike 44 = .ok (.iload_n 3, 1) := by decide +kernel
theorem dX4_areRatesUnlike_45 : decode cX4_areRatesUnlike 45 = .ok (.invokevirtual 58, 3) := by decide +kernel
theorem dX4_areRatesUnlike_48 : decode cX4_areRatesUnlike 48 = .ok (.ifCond .eq 22, 3) := by decide +kernel
theorem dX4_areRatesUnlike_51 : decode cX4_areRatesUnlike 51 = .ok (.aload_n 0, 1) := by decide +kernel
theorem dX4_areRatesUnlike_52 : decode cX4_areRatesUnlike 52 = .ok (.iload_n 3, 1) := by decide +kernel
theorem dX4_areRatesUnlike_53 : decode cX4_areRatesUnlike 53 = .ok (.iconst 2, 1) := by decide +kernel
theorem dX4_areRatesUnlike_54 : decode cX4_areRatesUnlike 54 = .ok (.invokevirtual 39, 3) := by decide +kernel
theorem dX4_areRatesUnlike_57 : decode cX4_areRatesUnlike 57 = .ok (.iload_n 2, 1) := by decide +kernel
theorem dX4_areRatesUnlike_58 : decode cX4_areRatesUnlike 58 = .ok (.if_icmp .le 12, 3) := by decide +kernel
theorem dX4_areRatesUnlike_61 : decode cX4_areRatesUnlike 61 = .ok (.aload_n 0, 1) := by decide +kernel
theorem dX4_areRatesUnlike_62 : decode cX4_areRatesUnlike 62 = .ok (.iload_n 3, 1) := by decide +kernel
theorem dX4_areRatesUnlike_63 : decode cX4_areRatesUnlike 63 = .ok (.iconst 2, 1) := by decide +kernel
theorem dX4_areRatesUnlike_64 : decode cX4_areRatesUnlike 64 = .ok (.invokevirtual 39, 3) := by decide +kernel
theorem dX4_areRatesUnlike_67 : decode cX4_areRatesUnlike 67 = .ok (.goto 4, 3) := by decide +kernel
theorem dX4_areRatesUnlike_70 : decode cX4_areRatesUnlike 70 = .ok (.iload_n 2, 1) := by decide +kernel
theorem dX4_areRatesUnlike_71 : decode cX4_areRatesUnlike 71 = .ok (.istore_n 2, 1) := by decide +kernel
theorem dX4_areRatesUnlike_72 : decode cX4_areRatesUnlike 72 = .ok (.iinc 3 1, 3) := by decide +kernel
theorem dX4_areRatesUnlike_75 : decode cX4_areRatesUnlike 75 = .ok (.goto (-67), 3) := by decide +kernel
theorem dX4_areRatesUnlike_78 : decode cX4_areRatesUnlike 78 = .ok (.iload_n 2, 1) := by decide +kernel
theorem dX4_areRatesUnlike_79 : decode cX4_areRatesUnlike 79 = .ok (.iload_n 1, 1) := by decide +kernel
theorem dX4_areRatesUnlike_80 : decode cX4_areRatesUnlike 80 = .ok (.if_icmp .le 7, 3) := by decide +kernel
theorem dX4_areRatesUnlike_83 : decode cX4_areRatesUnlike 83 = .ok (.iconst 1, 1) := by decide +kernel
theorem dX4_areRatesUnlike_84 : decode cX4_areRatesUnlike 84 = .ok (.goto 4, 3) := by decide +kernel
theorem dX4_areRatesUnlike_87 : decode cX4_areRatesUnlike 87 = .ok (.iconst 0, 1) := by decide +kernel
theorem dX4_areRatesUnlike_88 : decode cX4_areRatesUnlike 88 = .ok (.ireturn, 1) := by decide +kernel
theorem dX4_reason_0 : decode cX4_reason 0 = .ok (.aload_n 0, 1) := by decide +kernel
theorem dX4_reason_1 : decode cX4_reason 1 = .ok (.invokevirtual 86, 3) := by decide +kernel
theorem dX4_reason_4 : decode cX4_reason 4 = .ok (.ifCond .ne 5, 3) := by decide +kernel
theorem dX4_reason_7 : decode cX4_reason 7 = .ok (.iconst 1, 1) := by decide +kernel
theorem dX4_reason_8 : decode cX4_reason 8 = .ok (.ireturn, 1) := by decide +kernel
theorem dX4_reason_9 : decode cX4_reason 9 = .ok (.aload_n 0, 1) := by decide +kernel
theorem dX4_reason_10 : decode cX4_reason 10 = .ok (.invokevirtual 157, 3) := by decide +kernel
theorem dX4_reason_13 : decode cX4_reason 13 = .ok (.ifCond .eq 5, 3) := by decide +kernel
theorem dX4_reason_16 : decode cX4_reason 16 = .ok (.iconst 0, 1) := by decide +kernel
theorem dX4_reason_17 : decode cX4_reason 17 = .ok (.ireturn, 1) := by decide +kernel
theorem dX4_reason_18 : decode cX4_reason 18 = .ok (.aload_n 0, 1) := by decide +kernel
theorem dX4_reason_19 : decode cX4_reason 19 = .ok (.invokevirtual 163, 3) := by decide +kernel
theorem dX4_reason_22 : decode cX4_reason 22 = .ok (.iconst 1, 1) := by decide +kernel
theorem dX4_reason_23 : decode cX4_reason 23 = .ok (.if_icmp .le 7, 3) := by decide +kernel
theorem dX4_reason_26 : decode cX4_reason 26 = .ok (.iconst 2, 1) := by decide +kernel
theorem dX4_reason_27 : decode cX4_reason 27 = .ok (.goto 29, 3) := by decide +kernel
theorem dX4_reason_30 : decode cX4_reason 30 = .ok (.aload_n 0, 1) := by decide +kernel
theorem dX4_reason_31 : decode cX4_reason 31 = .ok (.invokevirtual 166, 3) := by decide +kernel
theorem dX4_reason_34 : decode cX4_reason 34 = .ok (.ifCond .eq 7, 3) := by decide +kernel
theorem dX4_reason_37 : decode cX4_reason 37 = .ok (.iconst 3, 1) := by decide +kernel
theorem dX4_reason_38 : decode cX4_reason 38 = .ok (.goto 18, 3) := by decide +kernel
theorem dX4_reason_41 : decode cX4_reason 41 = .ok (.aload_n 0, 1) := by decide +kernel
theorem dX4_reason_42 : decode cX4_reason 42 = .ok (.getfield 7, 3) := by decide +kernel
theorem dX4_reason_45 : decode cX4_reason 45 = .ok (.bipush 6, 2) := by decide +kernel
theorem dX4_reason_47 : decode cX4_reason 47 = .ok (.iaload, 1) := by decide +kernel
theorem dX4_reason_48 : decode cX4_reason 48 = .ok (.ifCond .ne 7, 3) := by decide +kernel
theorem dX4_reason_51 : decode cX4_reason 51 = .ok (.iconst 4, 1) := by decide +kernel
theorem dX4_reason_52 : decode cX4_reason 52 = .ok (.goto 4, 3) := by decide +kernel
theorem dX4_reason_55 : decode cX4_reason 55 = .ok (.iconst 0, 1) := by decide +kernel
theorem dX4_reason_56 : decode cX4_reason 56 = .ok (.ireturn, 1) := by decide +kernel
theorem dX4_spread_0 : decode cX4_spread 0 = .ok (.aload_n 0, 1) := by decide +kernel
theorem dX4_spread_1 : decode cX4_spread 1 = .ok (.invokevirtual 95, 3) := by decide +kernel
theorem dX4_spread_4 : decode cX4_spread 4 = .ok (.ireturn, 1) := by decide +kernel
theorem dX4_ifLinked_0 : decode cX4_ifLinked 0 = .ok (.aload_n 0, 1) := by decide +kernel
theorem dX4_ifLinked_1 : decode cX4_ifLinked 1 = .ok (.iload_n 1, 1) := by decide +kernel
theorem dX4_ifLinked_2 : decode cX4_ifLinked 2 = .ok (.invokevirtual 104, 3) := by decide +kernel
theorem dX4_ifLinked_5 : decode cX4_ifLinked 5 = .ok (.ifCond .eq 11, 3) := by decide +kernel
theorem dX4_ifLinked_8 : decode cX4_ifLinked 8 = .ok (.aload_n 0, 1) := by decide +kernel
theorem dX4_ifLinked_9 : decode cX4_ifLinked 9 = .ok (.iload_n 2, 1) := by decide +kernel
theorem dX4_ifLinked_10 : decode cX4_ifLinked 10 = .ok (.invokevirtual 104, 3) := by decide +kernel
theorem dX4_ifLinked_13 : decode cX4_ifLinked 13 = .ok (.ifCond .ne 5, 3) := by decide +kernel
theorem dX4_ifLinked_16 : decode cX4_ifLinked 16 = .ok (.iconst (-1), 1) := by decide +kernel
theorem dX4_ifLinked_17 : decode cX4_ifLinked 17 = .ok (.ireturn, 1) := by decide +kernel
theorem dX4_ifLinked_18 : decode cX4_ifLinked 18 = .ok (.iload_n 1, 1) := by decide +kernel
theorem dX4_ifLinked_19 : decode cX4_ifLinked 19 = .ok (.iload_n 2, 1) := by decide +kernel
theorem dX4_ifLinked_20 : decode cX4_ifLinked 20 = .ok (.if_icmp .ne 6, 3) := by decide +kernel
theorem dX4_ifLinked_23 : decode cX4_ifLinked 23 = .ok (.bipush (-2), 2) := by decide +kernel
theorem dX4_ifLinked_25 : decode cX4_ifLinked 25 = .ok (.ireturn, 1) := by decide +kernel
theorem dX4_ifLinked_26 : decode cX4_ifLinked 26 = .ok (.aload_n 0, 1) := by decide +kernel
theorem dX4_ifLinked_27 : decode cX4_ifLinked 27 = .ok (.getfield 7, 3) := by decide +kernel
theorem dX4_ifLinked_30 : decode cX4_ifLinked 30 = .ok (.iconst 0, 1) := by decide +kernel
theorem dX4_ifLinked_31 : decode cX4_ifLinked 31 = .ok (.aload_n 0, 1) := by decide +kernel
theorem dX4_ifLinked_32 : decode cX4_ifLinked 32 = .ok (.getfield 19, 3) := by decide +kernel
theorem dX4_ifLinked_35 : decode cX4_ifLinked 35 = .ok (.iconst 0, 1) := by decide +kernel
theorem dX4_ifLinked_36 : decode cX4_ifLinked 36 = .ok (.invokestatic 47, 3) := by decide +kernel
theorem dX4_ifLinked_39 : decode cX4_ifLinked 39 = .ok (.aload_n 0, 1) := by decide +kernel
theorem dX4_ifLinked_40 : decode cX4_ifLinked 40 = .ok (.iload_n 1, 1) := by decide +kernel
theorem dX4_ifLinked_41 : decode cX4_ifLinked 41 = .ok (.iload_n 2, 1) := by decide +kernel
theorem dX4_ifLinked_42 : decode cX4_ifLinked 42 = .ok (.aload_n 0, 1) := by decide +kernel
theorem dX4_ifLinked_43 : decode cX4_ifLinked 43 = .ok (.iload_n 1, 1) := by decide +kernel
theorem dX4_ifLinked_44 : decode cX4_ifLinked 44 = .ok (.bipush 8, 2) := by decide +kernel
theorem dX4_ifLinked_46 : decode cX4_ifLinked 46 = .ok (.invokevirtual 39, 3) := by decide +kernel
theorem dX4_ifLinked_49 : decode cX4_ifLinked 49 = .ok (.iload_n 2, 1) := by decide +kernel
theorem dX4_ifLinked_50 : decode cX4_ifLinked 50 = .ok (.invokestatic 66, 3) := by decide +kernel
theorem dX4_ifLinked_53 : decode cX4_ifLinked 53 = .ok (.ifCond .ne 7, 3) := by decide +kernel
theorem dX4_ifLinked_56 : decode cX4_ifLinked 56 = .ok (.iconst 1, 1) := by decide +kernel
theorem dX4_ifLinked_57 : decode cX4_ifLinked 57 = .ok (.goto 4, 3) := by decide +kernel
theorem dX4_ifLinked_60 : decode cX4_ifLinked 60 = .ok (.iconst 0, 1) := by decide +kernel
theorem dX4_ifLinked_61 : decode cX4_ifLinked 61 = .ok (.invokevirtual 107, 3) := by decide +kernel
theorem dX4_ifLinked_64 : decode cX4_ifLinked 64 = .ok (.aload_n 0, 1) := by decide +kernel
theorem dX4_ifLinked_65 : decode cX4_ifLinked 65 = .ok (.invokevirtual 160, 3) := by decide +kernel
theorem dX4_ifLinked_68 : decode cX4_ifLinked 68 = .ok (.istore_n 3, 1) := by decide +kernel
theorem dX4_ifLinked_69 : decode cX4_ifLinked 69 = .ok (.aload_n 0, 1) := by decide +kernel
theorem dX4_ifLinked_70 : decode cX4_ifLinked 70 = .ok (.getfield 19, 3) := by decide +kernel
theorem dX4_ifLinked_73 : decode cX4_ifLinked 73 = .ok (.iconst 0, 1) := by decide +kernel
theorem dX4_ifLinked_74 : decode cX4_ifLinked 74 = .ok (.aload_n 0, 1) := by decide +kernel
theorem dX4_ifLinked_75 : decode cX4_ifLinked 75 = .ok (.getfield 7, 3) := by decide +kernel
theorem dX4_ifLinked_78 : decode cX4_ifLinked 78 = .ok (.iconst 0, 1) := by decide +kernel
theorem dX4_ifLinked_79 : decode cX4_ifLinked 79 = .ok (.invokestatic 47, 3) := by decide +kernel
theorem dX4_ifLinked_82 : decode cX4_ifLinked 82 = .ok (.iload_n 3, 1) := by decide +kernel
theorem dX4_ifLinked_83 : decode cX4_ifLinked 83 = .ok (.ireturn, 1) := by decide +kernel
theorem dX4_hub_0 : decode cX4_hub 0 = .ok (.bipush (-5), 2) := by decide +kernel
theorem dX4_hub_2 : decode cX4_hub 2 = .ok (.istore_n 1, 1) := by decide +kernel
theorem dX4_hub_3 : decode cX4_hub 3 = .ok (.iconst 0, 1) := by decide +kernel
theorem dX4_hub_4 : decode cX4_hub 4 = .ok (.istore_n 2, 1) := by decide +kernel
theorem dX4_hub_5 : decode cX4_hub 5 = .ok (.iload_n 2, 1) := by decide +kernel
theorem dX4_hub_6 : decode cX4_hub 6 = .ok (.bipush 16, 2) := by decide +kernel
theorem dX4_hub_8 : decode cX4_hub 8 = .ok (.if_icmp .ge 64, 3) := by decide +kernel
theorem dX4_hub_11 : decode cX4_hub 11 = .ok (.aload_n 0, 1) := by decide +kernel
theorem dX4_hub_12 : decode cX4_hub 12 = .ok (.iload_n 2, 1) := by decide +kernel
theorem dX4_hub_13 : decode cX4_hub 13 = .ok (.iconst 0, 1) := by decide +kernel
theorem dX4_hub_14 : decode cX4_hub 14 = .ok (.invokevirtual 39, 3) := by decide +kernel
theorem dX4_hub_17 : decode cX4_hub 17 = .ok (.iconst 1, 1) := by decide +kernel
theorem dX4_hub_18 : decode cX4_hub 18 = .ok (.if_icmp .ne 36, 3) := by decide +kernel
theorem dX4_hub_21 : decode cX4_hub 21 = .ok (.iload_n 1, 1) := by decide +kernel
theorem dX4_hub_22 : decode cX4_hub 22 = .ok (.bipush (-5), 2) := by decide +kernel
theorem dX4_hub_24 : decode cX4_hub 24 = .ok (.if_icmp .eq 26, 3) := by decide +kernel
theorem dX4_hub_27 : decode cX4_hub 27 = .ok (.aload_n 0, 1) := by decide +kernel
theorem dX4_hub_28 : decode cX4_hub 28 = .ok (.iload_n 2, 1) := by decide +kernel
theorem dX4_hub_29 : decode cX4_hub 29 = .ok (.bipush 8, 2) := by decide +kernel
theorem dX4_hub_31 : decode cX4_hub 31 = .ok (.invokevirtual 39, 3) := by decide +kernel
theorem dX4_hub_34 : decode cX4_hub 34 = .ok (.invokestatic 55, 3) := by decide +kernel
theorem dX4_hub_37 : decode cX4_hub 37 = .ok (.aload_n 0, 1) := by decide +kernel
theorem dX4_hub_38 : decode cX4_hub 38 = .ok (.iload_n 1, 1) := by decide +kernel
theorem dX4_hub_39 : decode cX4_hub 39 = .ok (.bipush 8, 2) := by decide +kernel
theorem dX4_hub_41 : decode cX4_hub 41 = .ok (.invokevirtual 39, 3) := by decide +kernel
theorem dX4_hub_44 : decode cX4_hub 44 = .ok (.invokestatic 55, 3) := by decide +kernel
theorem dX4_hub_47 : decode cX4_hub 47 = .ok (.if_icmp .le 7, 3) := by decide +kernel
theorem dX4_hub_50 : decode cX4_hub 50 = .ok (.iconst 1, 1) := by decide +kernel
theorem dX4_hub_51 : decode cX4_hub 51 = .ok (.goto 4, 3) := by decide +kernel
theorem dX4_hub_54 : decode cX4_hub 54 = .ok (.iconst 0, 1) := by decide +kernel
theorem dX4_hub_55 : decode cX4_hub 55 = .ok (.istore_n 3, 1) := by decide +kernel
theorem dX4_hub_56 : decode cX4_hub 56 = .ok (.iload_n 3, 1) := by decide +kernel
theorem dX4_hub_57 : decode cX4_hub 57 = .ok (.ifCond .eq 7, 3) := by decide +kernel
theorem dX4_hub_60 : decode cX4_hub 60 = .ok (.iload_n 2, 1) := by decide +kernel
theorem dX4_hub_61 : decode cX4_hub 61 = .ok (.goto 4, 3) := by decide +kernel
theorem dX4_hub_64 : decode cX4_hub 64 = .ok (.iload_n 1, 1) := by decide +kernel
theorem dX4_hub_65 : decode cX4_hub 65 = .ok (.istore_n 1, 1) := by decide +kernel
theorem dX4_hub_66 : decode cX4_hub 66 = .ok (.iinc 2 1, 3) := by decide +kernel
theorem dX4_hub_69 : decode cX4_hub 69 = .ok (.goto (-64), 3) := by decide +kernel
theorem dX4_hub_72 : decode cX4_hub 72 = .ok (.iload_n 1, 1) := by decide +kernel
theorem dX4_hub_73 : decode cX4_hub 73 = .ok (.ireturn, 1) := by decide +kernel
theorem dX4_bestLink_0 : decode cX4_bestLink 0 = .ok (.iload_n 1, 1) := by decide +kernel
theorem dX4_bestLink_1 : decode cX4_bestLink 1 = .ok (.iconst 0, 1) := by decide +kernel
theorem dX4_bestLink_2 : decode cX4_bestLink 2 = .ok (.iconst 2, 1) := by decide +kernel
theorem dX4_bestLink_3 : decode cX4_bestLink 3 = .ok (.invokestatic 35, 3) := by decide +kernel
theorem dX4_bestLink_6 : decode cX4_bestLink 6 = .ok (.ifCond .ne 6, 3) := by decide +kernel
theorem dX4_bestLink_9 : decode cX4_bestLink 9 = .ok (.bipush (-2), 2) := by decide +kernel
theorem dX4_bestLink_11 : decode cX4_bestLink 11 = .ok (.ireturn, 1) := by decide +kernel
theorem dX4_bestLink_12 : decode cX4_bestLink 12 = .ok (.bipush (-5), 2) := by decide +kernel
theorem dX4_bestLink_14 : decode cX4_bestLink 14 = .ok (.istore_n 2, 1) := by decide +kernel
theorem dX4_bestLink_15 : decode cX4_bestLink 15 = .ok (.bipush (-5), 2) := by decide +kernel
theorem dX4_bestLink_17 : decode cX4_bestLink 17 = .ok (.istore_n 3, 1) := by decide +kernel
theorem dX4_bestLink_18 : decode cX4_bestLink 18 = .ok (.aload_n 0, 1) := by decide +kernel
theorem dX4_bestLink_19 : decode cX4_bestLink 19 = .ok (.getfield 7, 3) := by decide +kernel
theorem dX4_bestLink_22 : decode cX4_bestLink 22 = .ok (.iconst 0, 1) := by decide +kernel
theorem dX4_bestLink_23 : decode cX4_bestLink 23 = .ok (.aload_n 0, 1) := by decide +kernel
theorem dX4_bestLink_24 : decode cX4_bestLink 24 = .ok (.getfield 19, 3) := by decide +kernel
theorem dX4_bestLink_27 : decode cX4_bestLink 27 = .ok (.iconst 0, 1) := by decide +kernel
theorem dX4_bestLink_28 : decode cX4_bestLink 28 = .ok (.invokestatic 47, 3) := by decide +kernel
theorem dX4_bestLink_31 : decode cX4_bestLink 31 = .ok (.iconst 0, 1) := by decide +kernel
theorem dX4_bestLink_32 : decode cX4_bestLink 32 = .ok (.istore 4, 2) := by decide +kernel
theorem dX4_bestLink_34 : decode cX4_bestLink 34 = .ok (.iload 4, 2) := by decide +kernel
theorem dX4_bestLink_36 : decode cX4_bestLink 36 = .ok (.sipush 256, 3) := by decide +kernel
theorem dX4_bestLink_39 : decode cX4_bestLink 39 = .ok (.if_icmp .ge 141, 3) := by decide +kernel
theorem dX4_bestLink_42 : decode cX4_bestLink 42 = .ok (.iload 4, 2) := by decide +kernel
theorem dX4_bestLink_44 : decode cX4_bestLink 44 = .ok (.bipush 16, 2) := by decide +kernel
theorem dX4_bestLink_46 : decode cX4_bestLink 46 = .ok (.idiv, 1) := by decide +kernel
theorem dX4_bestLink_47 : decode cX4_bestLink 47 = .ok (.istore 5, 2) := by decide +kernel
theorem dX4_bestLink_49 : decode cX4_bestLink 49 = .ok (.iload 4, 2) := by decide +kernel
theorem dX4_bestLink_51 : decode cX4_bestLink 51 = .ok (.bipush 16, 2) := by decide +kernel
theorem dX4_bestLink_53 : decode cX4_bestLink 53 = .ok (.irem, 1) := by decide +kernel
theorem dX4_bestLink_54 : decode cX4_bestLink 54 = .ok (.istore 6, 2) := by decide +kernel
theorem dX4_bestLink_56 : decode cX4_bestLink 56 = .ok (.iload 5, 2) := by decide +kernel
theorem dX4_bestLink_58 : decode cX4_bestLink 58 = .ok (.iload 6, 2) := by decide +kernel
theorem dX4_bestLink_60 : decode cX4_bestLink 60 = .ok (.if_icmp .ge 114, 3) := by decide +kernel
theorem dX4_bestLink_63 : decode cX4_bestLink 63 = .ok (.aload_n 0, 1) := by decide +kernel
theorem dX4_bestLink_64 : decode cX4_bestLink 64 = .ok (.iload 5, 2) := by decide +kernel
theorem dX4_bestLink_66 : decode cX4_bestLink 66 = .ok (.invokevirtual 58, 3) := by decide +kernel
theorem dX4_bestLink_69 : decode cX4_bestLink 69 = .ok (.ifCond .eq 105, 3) := by decide +kernel
theorem dX4_bestLink_72 : decode cX4_bestLink 72 = .ok (.aload_n 0, 1) := by decide +kernel
theorem dX4_bestLink_73 : decode cX4_bestLink 73 = .ok (.iload 6, 2) := by decide +kernel
theorem dX4_bestLink_75 : decode cX4_bestLink 75 = .ok (.invokevirtual 58, 3) := by decide +kernel
theorem dX4_bestLink_78 : decode cX4_bestLink 78 = .ok (.ifCond .eq 96, 3) := by decide +kernel
theorem dX4_bestLink_81 : decode cX4_bestLink 81 = .ok (.aload_n 0, 1) := by decide +kernel
theorem dX4_bestLink_82 : decode cX4_bestLink 82 = .ok (.iload 5, 2) := by decide +kernel
theorem dX4_bestLink_84 : decode cX4_bestLink 84 = .ok (.bipush 8, 2) := by decide +kernel
theorem dX4_bestLink_86 : decode cX4_bestLink 86 = .ok (.invokevirtual 39, 3) := by decide +kernel
theorem dX4_bestLink_89 : decode cX4_bestLink 89 = .ok (.iload 6, 2) := by decide +kernel
theorem dX4_bestLink_91 : decode cX4_bestLink 91 = .ok (.invokestatic 66, 3) := by decide +kernel
theorem dX4_bestLink_94 : decode cX4_bestLink 94 = .ok (.ifCond .ne 80, 3) := by decide +kernel
theorem dX4_bestLink_97 : decode cX4_bestLink 97 = .ok (.aload_n 0, 1) := by decide +kernel
theorem dX4_bestLink_98 : decode cX4_bestLink 98 = .ok (.iload 5, 2) := by decide +kernel
theorem dX4_bestLink_100 : decode cX4_bestLink 100 = .ok (.iload 6, 2) := by decide +kernel
theorem dX4_bestLink_102 : decode cX4_bestLink 102 = .ok (.iconst 1, 1) := by decide +kernel
theorem dX4_bestLink_103 : decode cX4_bestLink 103 = .ok (.invokevirtual 107, 3) := by decide +kernel
theorem dX4_bestLink_106 : decode cX4_bestLink 106 = .ok (.aload_n 0, 1) := by decide +kernel
theorem dX4_bestLink_107 : decode cX4_bestLink 107 = .ok (.bipush 100, 2) := by decide +kernel
theorem dX4_bestLink_109 : decode cX4_bestLink 109 = .ok (.invokevirtual 115, 3) := by decide +kernel
theorem dX4_bestLink_112 : decode cX4_bestLink 112 = .ok (.aload_n 0, 1) := by decide +kernel
theorem dX4_bestLink_113 : decode cX4_bestLink 113 = .ok (.invokevirtual 95, 3) := by decide +kernel
theorem dX4_bestLink_116 : decode cX4_bestLink 116 = .ok (.istore 7, 2) := by decide +kernel
theorem dX4_bestLink_118 : decode cX4_bestLink 118 = .ok (.iload_n 2, 1) := by decide +kernel
theorem dX4_bestLink_119 : decode cX4_bestLink 119 = .ok (.bipush (-5), 2) := by decide +kernel
theorem dX4_bestLink_121 : decode cX4_bestLink 121 = .ok (.if_icmp .eq 9, 3) := by decide +kernel
theorem dX4_bestLink_124 : decode cX4_bestLink 124 = .ok (.iload 7, 2) := by decide +kernel
theorem dX4_bestLink_126 : decode cX4_bestLink 126 = .ok (.iload_n 3, 1) := by decide +kernel
theorem dX4_bestLink_127 : decode cX4_bestLink 127 = .ok (.if_icmp .ge 7, 3) := by decide +kernel
theorem dX4_bestLink_130 : decode cX4_bestLink 130 = .ok (.iconst 1, 1) := by decide +kernel
theorem dX4_bestLink_131 : decode cX4_bestLink 131 = .ok (.goto 4, 3) := by decide +kernel
theorem dX4_bestLink_134 : decode cX4_bestLink 134 = .ok (.iconst 0, 1) := by decide +kernel
theorem dX4_bestLink_135 : decode cX4_bestLink 135 = .ok (.istore 8, 2) := by decide +kernel
theorem dX4_bestLink_137 : decode cX4_bestLink 137 = .ok (.iload 8, 2) := by decide +kernel
theorem dX4_bestLink_139 : decode cX4_bestLink 139 = .ok (.ifCond .eq 8, 3) := by decide +kernel
theorem dX4_bestLink_142 : decode cX4_bestLink 142 = .ok (.iload 4, 2) := by decide +kernel
theorem dX4_bestLink_144 : decode cX4_bestLink 144 = .ok (.goto 4, 3) := by decide +kernel
theorem dX4_bestLink_147 : decode cX4_bestLink 147 = .ok (.iload_n 2, 1) := by decide +kernel
theorem dX4_bestLink_148 : decode cX4_bestLink 148 = .ok (.istore_n 2, 1) := by decide +kernel
theorem dX4_bestLink_149 : decode cX4_bestLink 149 = .ok (.iload 8, 2) := by decide +kernel
theorem dX4_bestLink_151 : decode cX4_bestLink 151 = .ok (.ifCond .eq 8, 3) := by decide +kernel
theorem dX4_bestLink_154 : decode cX4_bestLink 154 = .ok (.iload 7, 2) := by decide +kernel
theorem dX4_bestLink_156 : decode cX4_bestLink 156 = .ok (.goto 4, 3) := by decide +kernel
theorem dX4_bestLink_159 : decode cX4_bestLink 159 = .ok (.iload_n 3, 1) := by decide +kernel
theorem dX4_bestLink_160 : decode cX4_bestLink 160 = .ok (.istore_n 3, 1) := by decide +kernel
theorem dX4_bestLink_161 : decode cX4_bestLink 161 = .ok (.aload_n 0, 1) := by decide +kernel
theorem dX4_bestLink_162 : decode cX4_bestLink 162 = .ok (.getfield 19, 3) := by decide +kernel
theorem dX4_bestLink_165 : decode cX4_bestLink 165 = .ok (.iconst 0, 1) := by decide +kernel
theorem dX4_bestLink_166 : decode cX4_bestLink 166 = .ok (.aload_n 0, 1) := by decide +kernel
theorem dX4_bestLink_167 : decode cX4_bestLink 167 = .ok (.getfield 7, 3) := by decide +kernel
theorem dX4_bestLink_170 : decode cX4_bestLink 170 = .ok (.iconst 0, 1) := by decide +kernel
theorem dX4_bestLink_171 : decode cX4_bestLink 171 = .ok (.invokestatic 47, 3) := by decide +kernel
theorem dX4_bestLink_174 : decode cX4_bestLink 174 = .ok (.iinc 4 1, 3) := by decide +kernel
theorem dX4_bestLink_177 : decode cX4_bestLink 177 = .ok (.goto (-143), 3) := by decide +kernel
theorem dX4_bestLink_180 : decode cX4_bestLink 180 = .ok (.iload_n 2, 1) := by decide +kernel
theorem dX4_bestLink_181 : decode cX4_bestLink 181 = .ok (.bipush (-5), 2) := by decide +kernel
theorem dX4_bestLink_183 : decode cX4_bestLink 183 = .ok (.if_icmp .ne 8, 3) := by decide +kernel
theorem dX4_bestLink_186 : decode cX4_bestLink 186 = .ok (.bipush (-5), 2) := by decide +kernel
theorem dX4_bestLink_188 : decode cX4_bestLink 188 = .ok (.goto 27, 3) := by decide +kernel
theorem dX4_bestLink_191 : decode cX4_bestLink 191 = .ok (.iload_n 1, 1) := by decide +kernel
theorem dX4_bestLink_192 : decode cX4_bestLink 192 = .ok (.ifCond .ne 10, 3) := by decide +kernel
theorem dX4_bestLink_195 : decode cX4_bestLink 195 = .ok (.iload_n 2, 1) := by decide +kernel
theorem dX4_bestLink_196 : decode cX4_bestLink 196 = .ok (.bipush 16, 2) := by decide +kernel
theorem dX4_bestLink_198 : decode cX4_bestLink 198 = .ok (.idiv, 1) := by decide +kernel
theorem dX4_bestLink_199 : decode cX4_bestLink 199 = .ok (.goto 16, 3) := by decide +kernel
theorem dX4_bestLink_202 : decode cX4_bestLink 202 = .ok (.iload_n 1, 1) := by decide +kernel
theorem dX4_bestLink_203 : decode cX4_bestLink 203 = .ok (.iconst 1, 1) := by decide +kernel
theorem dX4_bestLink_204 : decode cX4_bestLink 204 = .ok (.if_icmp .ne 10, 3) := by decide +kernel
theorem dX4_bestLink_207 : decode cX4_bestLink 207 = .ok (.iload_n 2, 1) := by decide +kernel
theorem dX4_bestLink_208 : decode cX4_bestLink 208 = .ok (.bipush 16, 2) := by decide +kernel
theorem dX4_bestLink_210 : decode cX4_bestLink 210 = .ok (.irem, 1) := by decide +kernel
theorem dX4_bestLink_211 : decode cX4_bestLink 211 = .ok (.goto 4, 3) := by decide +kernel
theorem dX4_bestLink_214 : decode cX4_bestLink 214 = .ok (.iload_n 3, 1) := by decide +kernel
theorem dX4_bestLink_215 : decode cX4_bestLink 215 = .ok (.ireturn, 1) := by decide +kernel
theorem dX4_count_0 : decode cX4_count 0 = .ok (.iload_n 1, 1) := by decide +kernel
theorem dX4_count_1 : decode cX4_count 1 = .ok (.tableswitch 138 0 13 #[71, 78, 87, 95, 100, 105, 105, 105, 105, 116, 116, 116, 128, 133], 71) := by decide +kernel
theorem dX4_count_72 : decode cX4_count 72 = .ok (.aload_n 0, 1) := by decide +kernel
theorem dX4_count_73 : decode cX4_count 73 = .ok (.getfield 7, 3) := by decide +kernel
theorem dX4_count_76 : decode cX4_count 76 = .ok (.iconst 0, 1) := by decide +kernel
theorem dX4_count_77 : decode cX4_count 77 = .ok (.iaload, 1) := by decide +kernel
theorem dX4_count_78 : decode cX4_count 78 = .ok (.ireturn, 1) := by decide +kernel
theorem dX4_count_79 : decode cX4_count 79 = .ok (.aload_n 0, 1) := by decide +kernel
theorem dX4_count_80 : decode cX4_count 80 = .ok (.iconst 0, 1) := by decide +kernel
theorem dX4_count_81 : decode cX4_count 81 = .ok (.invokevirtual 51, 3) := by decide +kernel
theorem dX4_count_84 : decode cX4_count 84 = .ok (.invokestatic 55, 3) := by decide +kernel
theorem dX4_count_87 : decode cX4_count 87 = .ok (.ireturn, 1) := by decide +kernel
theorem dX4_count_88 : decode cX4_count 88 = .ok (.aload_n 0, 1) := by decide +kernel
theorem dX4_count_89 : decode cX4_count 89 = .ok (.invokevirtual 86, 3) := by decide +kernel
theorem dX4_count_92 : decode cX4_count 92 = .ok (.invokestatic 55, 3) := by decide +kernel
theorem dX4_count_95 : decode cX4_count 95 = .ok (.ireturn, 1) := by decide +kernel
theorem dX4_count_96 : decode cX4_count 96 = .ok (.aload_n 0, 1) := by decide +kernel
theorem dX4_count_97 : decode cX4_count 97 = .ok (.invokevirtual 111, 3) := by decide +kernel
theorem dX4_count_100 : decode cX4_count 100 = .ok (.ireturn, 1) := by decide +kernel
theorem dX4_count_101 : decode cX4_count 101 = .ok (.aload_n 0, 1) := by decide +kernel
theorem dX4_count_102 : decode cX4_count 102 = .ok (.invokevirtual 163, 3) := by decide +kernel
theorem dX4_count_105 : decode cX4_count 105 = .ok (.ireturn, 1) := by decide +kernel
theorem dX4_count_106 : decode cX4_count 106 = .ok (.aload_n 0, 1) := by decide +kernel
theorem dX4_count_107 : decode cX4_count 107 = .ok (.getfield 7, 3) := by decide +kernel
theorem dX4_count_110 : decode cX4_count 110 = .ok (.iconst 1, 1) := by decide +kernel
theorem dX4_count_111 : decode cX4_count 111 = .ok (.iload_n 1, 1) := by decide +kernel
theorem dX4_count_112 : decode cX4_count 112 = .ok (.iadd, 1) := by decide +kernel
theorem dX4_count_113 : decode cX4_count 113 = .ok (.iconst 5, 1) := by decide +kernel
theorem dX4_count_114 : decode cX4_count 114 = .ok (.isub, 1) := by decide +kernel
theorem dX4_count_115 : decode cX4_count 115 = .ok (.iaload, 1) := by decide +kernel
theorem dX4_count_116 : decode cX4_count 116 = .ok (.ireturn, 1) := by decide +kernel
theorem dX4_count_117 : decode cX4_count 117 = .ok (.aload_n 0, 1) := by decide +kernel
theorem dX4_count_118 : decode cX4_count 118 = .ok (.getfield 7, 3) := by decide +kernel
theorem dX4_count_121 : decode cX4_count 121 = .ok (.iconst 5, 1) := by decide +kernel
theorem dX4_count_122 : decode cX4_count 122 = .ok (.iload_n 1, 1) := by decide +kernel
theorem dX4_count_123 : decode cX4_count 123 = .ok (.iadd, 1) := by decide +kernel
theorem dX4_count_124 : decode cX4_count 124 = .ok (.bipush 9, 2) := by decide +kernel
theorem dX4_count_126 : decode cX4_count 126 = .ok (.isub, 1) := by decide +kernel
theorem dX4_count_127 : decode cX4_count 127 = .ok (.iaload, 1) := by decide +kernel
theorem dX4_count_128 : decode cX4_count 128 = .ok (.ireturn, 1) := by decide +kernel
theorem dX4_count_129 : decode cX4_count 129 = .ok (.aload_n 0, 1) := by decide +kernel
theorem dX4_count_130 : decode cX4_count 130 = .ok (.getfield 43, 3) := by decide +kernel
theorem dX4_count_133 : decode cX4_count 133 = .ok (.ireturn, 1) := by decide +kernel
theorem dX4_count_134 : decode cX4_count 134 = .ok (.aload_n 0, 1) := by decide +kernel
theorem dX4_count_135 : decode cX4_count 135 = .ok (.getfield 119, 3) := by decide +kernel
theorem dX4_count_138 : decode cX4_count 138 = .ok (.ireturn, 1) := by decide +kernel
theorem dX4_count_139 : decode cX4_count 139 = .ok (.bipush (-2), 2) := by decide +kernel
theorem dX4_count_141 : decode cX4_count 141 = .ok (.ireturn, 1) := by decide +kernel
theorem dJ6_bitCount_0f7a4_0 : decode cJ6_bitCount_0f7a4 0 = .ok (.iload_n 0, 1) := by decide +kernel
theorem dJ6_bitCount_0f7a4_1 : decode cJ6_bitCount_0f7a4 1 = .ok (.iload_n 0, 1) := by decide +kernel
theorem dJ6_bitCount_0f7a4_2 : decode cJ6_bitCount_0f7a4 2 = .ok (.iconst 1, 1) := by decide +kernel
theorem dJ6_bitCount_0f7a4_3 : decode cJ6_bitCount_0f7a4 3 = .ok (.iushr, 1) := by decide +kernel
theorem dJ6_bitCount_0f7a4_4 : decode cJ6_bitCount_0f7a4 4 = .ok (.ldc_w 265, 3) := by decide +kernel
theorem dJ6_bitCount_0f7a4_7 : decode cJ6_bitCount_0f7a4 7 = .ok (.iand, 1) := by decide +kernel
theorem dJ6_bitCount_0f7a4_8 : decode cJ6_bitCount_0f7a4 8 = .ok (.isub, 1) := by decide +kernel
theorem dJ6_bitCount_0f7a4_9 : decode cJ6_bitCount_0f7a4 9 = .ok (.istore_n 0, 1) := by decide +kernel
theorem dJ6_bitCount_0f7a4_10 : decode cJ6_bitCount_0f7a4 10 = .ok (.iload_n 0, 1) := by decide +kernel
theorem dJ6_bitCount_0f7a4_11 : decode cJ6_bitCount_0f7a4 11 = .ok (.ldc_w 266, 3) := by decide +kernel
theorem dJ6_bitCount_0f7a4_14 : decode cJ6_bitCount_0f7a4 14 = .ok (.iand, 1) := by decide +kernel
theorem dJ6_bitCount_0f7a4_15 : decode cJ6_bitCount_0f7a4 15 = .ok (.iload_n 0, 1) := by decide +kernel
theorem dJ6_bitCount_0f7a4_16 : decode cJ6_bitCount_0f7a4 16 = .ok (.iconst 2, 1) := by decide +kernel
theorem dJ6_bitCount_0f7a4_17 : decode cJ6_bitCount_0f7a4 17 = .ok (.iushr, 1) := by decide +kernel
theorem dJ6_bitCount_0f7a4_18 : decode cJ6_bitCount_0f7a4 18 = .ok (.ldc_w 266, 3) := by decide +kernel
theorem dJ6_bitCount_0f7a4_21 : decode cJ6_bitCount_0f7a4 21 = .ok (.iand, 1) := by decide +kernel
theorem dJ6_bitCount_0f7a4_22 : decode cJ6_bitCount_0f7a4 22 = .ok (.iadd, 1) := by decide +kernel
theorem dJ6_bitCount_0f7a4_23 : decode cJ6_bitCount_0f7a4 23 = .ok (.istore_n 0, 1) := by decide +kernel
theorem dJ6_bitCount_0f7a4_24 : decode cJ6_bitCount_0f7a4 24 = .ok (.iload_n 0, 1) := by decide +kernel
theorem dJ6_bitCount_0f7a4_25 : decode cJ6_bitCount_0f7a4 25 = .ok (.iload_n 0, 1) := by decide +kernel
theorem dJ6_bitCount_0f7a4_26 : decode cJ6_bitCount_0f7a4 26 = .ok (.iconst 4, 1) := by decide +kernel
theorem dJ6_bitCount_0f7a4_27 : decode cJ6_bitCount_0f7a4 27 = .ok (.iushr, 1) := by decide +kernel
theorem dJ6_bitCount_0f7a4_28 : decode cJ6_bitCount_0f7a4 28 = .ok (.iadd, 1) := by decide +kernel
theorem dJ6_bitCount_0f7a4_29 : decode cJ6_bitCount_0f7a4 29 = .ok (.ldc_w 267, 3) := by decide +kernel
theorem dJ6_bitCount_0f7a4_32 : decode cJ6_bitCount_0f7a4 32 = .ok (.iand, 1) := by decide +kernel
theorem dJ6_bitCount_0f7a4_33 : decode cJ6_bitCount_0f7a4 33 = .ok (.istore_n 0, 1) := by decide +kernel
theorem dJ6_bitCount_0f7a4_34 : decode cJ6_bitCount_0f7a4 34 = .ok (.iload_n 0, 1) := by decide +kernel
theorem dJ6_bitCount_0f7a4_35 : decode cJ6_bitCount_0f7a4 35 = .ok (.iload_n 0, 1) := by decide +kernel
theorem dJ6_bitCount_0f7a4_36 : decode cJ6_bitCount_0f7a4 36 = .ok (.bipush 8, 2) := by decide +kernel
theorem dJ6_bitCount_0f7a4_38 : decode cJ6_bitCount_0f7a4 38 = .ok (.iushr, 1) := by decide +kernel
theorem dJ6_bitCount_0f7a4_39 : decode cJ6_bitCount_0f7a4 39 = .ok (.iadd, 1) := by decide +kernel
theorem dJ6_bitCount_0f7a4_40 : decode cJ6_bitCount_0f7a4 40 = .ok (.istore_n 0, 1) := by decide +kernel
theorem dJ6_bitCount_0f7a4_41 : decode cJ6_bitCount_0f7a4 41 = .ok (.iload_n 0, 1) := by decide +kernel
theorem dJ6_bitCount_0f7a4_42 : decode cJ6_bitCount_0f7a4 42 = .ok (.iload_n 0, 1) := by decide +kernel
theorem dJ6_bitCount_0f7a4_43 : decode cJ6_bitCount_0f7a4 43 = .ok (.bipush 16, 2) := by decide +kernel
theorem dJ6_bitCount_0f7a4_45 : decode cJ6_bitCount_0f7a4 45 = .ok (.iushr, 1) := by decide +kernel
theorem dJ6_bitCount_0f7a4_46 : decode cJ6_bitCount_0f7a4 46 = .ok (.iadd, 1) := by decide +kernel
theorem dJ6_bitCount_0f7a4_47 : decode cJ6_bitCount_0f7a4 47 = .ok (.istore_n 0, 1) := by decide +kernel
theorem dJ6_bitCount_0f7a4_48 : decode cJ6_bitCount_0f7a4 48 = .ok (.iload_n 0, 1) := by decide +kernel
theorem dJ6_bitCount_0f7a4_49 : decode cJ6_bitCount_0f7a4 49 = .ok (.bipush 63, 2) := by decide +kernel
theorem dJ6_bitCount_0f7a4_51 : decode cJ6_bitCount_0f7a4 51 = .ok (.iand, 1) := by decide +kernel
theorem dJ6_bitCount_0f7a4_52 : decode cJ6_bitCount_0f7a4 52 = .ok (.ireturn, 1) := by decide +kernel
theorem dJ9_abs_0f7a4_0 : decode cJ9_abs_0f7a4 0 = .ok (.iload_n 0, 1) := by decide +kernel
theorem dJ9_abs_0f7a4_1 : decode cJ9_abs_0f7a4 1 = .ok (.ifCond .ge 8, 3) := by decide +kernel
theorem dJ9_abs_0f7a4_4 : decode cJ9_abs_0f7a4 4 = .ok (.iload_n 0, 1) := by decide +kernel
theorem dJ9_abs_0f7a4_5 : decode cJ9_abs_0f7a4 5 = .ok (.ineg, 1) := by decide +kernel
theorem dJ9_abs_0f7a4_6 : decode cJ9_abs_0f7a4 6 = .ok (.goto 4, 3) := by decide +kernel
theorem dJ9_abs_0f7a4_9 : decode cJ9_abs_0f7a4 9 = .ok (.iload_n 0, 1) := by decide +kernel
theorem dJ9_abs_0f7a4_10 : decode cJ9_abs_0f7a4 10 = .ok (.ireturn, 1) := by decide +kernel
theorem dJ9_max_7cf53_0 : decode cJ9_max_7cf53 0 = .ok (.iload_n 0, 1) := by decide +kernel
theorem dJ9_max_7cf53_1 : decode cJ9_max_7cf53 1 = .ok (.iload_n 1, 1) := by decide +kernel
theorem dJ9_max_7cf53_2 : decode cJ9_max_7cf53 2 = .ok (.if_icmp .lt 7, 3) := by decide +kernel
theorem dJ9_max_7cf53_5 : decode cJ9_max_7cf53 5 = .ok (.iload_n 0, 1) := by decide +kernel
theorem dJ9_max_7cf53_6 : decode cJ9_max_7cf53 6 = .ok (.goto 4, 3) := by decide +kernel
theorem dJ9_max_7cf53_9 : decode cJ9_max_7cf53 9 = .ok (.iload_n 1, 1) := by decide +kernel
theorem dJ9_max_7cf53_10 : decode cJ9_max_7cf53 10 = .ok (.ireturn, 1) := by decide +kernel
theorem dJ9_min_7cf53_0 : decode cJ9_min_7cf53 0 = .ok (.iload_n 0, 1) := by decide +kernel
theorem dJ9_min_7cf53_1 : decode cJ9_min_7cf53 1 = .ok (.iload_n 1, 1) := by decide +kernel
theorem dJ9_min_7cf53_2 : decode cJ9_min_7cf53 2 = .ok (.if_icmp .gt 7, 3) := by decide +kernel
theorem dJ9_min_7cf53_5 : decode cJ9_min_7cf53 5 = .ok (.iload_n 0, 1) := by decide +kernel
theorem dJ9_min_7cf53_6 : decode cJ9_min_7cf53 6 = .ok (.goto 4, 3) := by decide +kernel
theorem dJ9_min_7cf53_9 : decode cJ9_min_7cf53 9 = .ok (.iload_n 1, 1) := by decide +kernel
theorem dJ9_min_7cf53_10 : decode cJ9_min_7cf53 10 = .ok (.ireturn, 1) := by decide +kernel
end
section
theorem dL_law_0 : decode cL_law 0 = .ok (.new 7, 3) := by decide +kernel
theorem dL_law_3 : decode cL_law 3 = .ok (.dup, 1) := by decide +kernel
theorem dL_law_4 : decode cL_law 4 = .ok (.invokespecial 9, 3) := by decide +kernel
theorem dL_law_7 : decode cL_law 7 = .ok (.astore_n 1, 1) := by decide +kernel
theorem dL_law_8 : decode cL_law 8 = .ok (.new 10, 3) := by decide +kernel
theorem dL_law_11 : decode cL_law 11 = .ok (.dup, 1) := by decide +kernel
theorem dL_law_12 : decode cL_law 12 = .ok (.invokespecial 12, 3) := by decide +kernel
theorem dL_law_15 : decode cL_law 15 = .ok (.astore_n 2, 1) := by decide +kernel
theorem dL_law_16 : decode cL_law 16 = .ok (.iconst 0, 1) := by decide +kernel
theorem dL_law_17 : decode cL_law 17 = .ok (.istore_n 3, 1) := by decide +kernel
theorem dL_law_18 : decode cL_law 18 = .ok (.iload_n 3, 1) := by decide +kernel
theorem dL_law_19 : decode cL_law 19 = .ok (.aload_n 0, 1) := by decide +kernel
theorem dL_law_20 : decode cL_law 20 = .ok (.arraylength, 1) := by decide +kernel
theorem dL_law_21 : decode cL_law 21 = .ok (.iconst 4, 1) := by decide +kernel
theorem dL_law_22 : decode cL_law 22 = .ok (.isub, 1) := by decide +kernel
theorem dL_law_23 : decode cL_law 23 = .ok (.if_icmp .gt 696, 3) := by decide +kernel
theorem dL_law_26 : decode cL_law 26 = .ok (.aload_n 0, 1) := by decide +kernel
theorem dL_law_27 : decode cL_law 27 = .ok (.iload_n 3, 1) := by decide +kernel
theorem dL_law_28 : decode cL_law 28 = .ok (.iaload, 1) := by decide +kernel
theorem dL_law_29 : decode cL_law 29 = .ok (.bipush 31, 2) := by decide +kernel
theorem dL_law_31 : decode cL_law 31 = .ok (.iand, 1) := by decide +kernel
theorem dL_law_32 : decode cL_law 32 = .ok (.tableswitch 681 0 22 #[108, 141, 164, 213, 272, 315, 348, 371, 396, 409, 422, 435, 448, 461, 494, 527, 550, 563, 576, 589, 622, 635, 658], 108) := by decide +kernel
theorem dL_law_140 : decode cL_law 140 = .ok (.aload_n 1, 1) := by decide +kernel
theorem dL_law_141 : decode cL_law 141 = .ok (.aload_n 0, 1) := by decide +kernel
theorem dL_law_142 : decode cL_law 142 = .ok (.iload_n 3, 1) := by decide +kernel
theorem dL_law_143 : decode cL_law 143 = .ok (.iconst 1, 1) := by decide +kernel
theorem dL_law_144 : decode cL_law 144 = .ok (.iadd, 1) := by decide +kernel
theorem dL_law_145 : decode cL_law 145 = .ok (.iaload, 1) := by decide +kernel
theorem dL_law_146 : decode cL_law 146 = .ok (.aload_n 0, 1) := by decide +kernel
theorem dL_law_147 : decode cL_law 147 = .ok (.iload_n 3, 1) := by decide +kernel
theorem dL_law_148 : decode cL_law 148 = .ok (.iconst 2, 1) := by decide +kernel
theorem dL_law_149 : decode cL_law 149 = .ok (.iadd, 1) := by decide +kernel
theorem dL_law_150 : decode cL_law 150 = .ok (.iaload, 1) := by decide +kernel
theorem dL_law_151 : decode cL_law 151 = .ok (.invokevirtual 13, 3) := by decide +kernel
theorem dL_law_154 : decode cL_law 154 = .ok (.aload_n 2, 1) := by decide +kernel
theorem dL_law_155 : decode cL_law 155 = .ok (.aload_n 0, 1) := by decide +kernel
theorem dL_law_156 : decode cL_law 156 = .ok (.iload_n 3, 1) := by decide +kernel
theorem dL_law_157 : decode cL_law 157 = .ok (.iconst 1, 1) := by decide +kernel
theorem dL_law_158 : decode cL_law 158 = .ok (.iadd, 1) := by decide +kernel
theorem dL_law_159 : decode cL_law 159 = .ok (.iaload, 1) := by decide +kernel
theorem dL_law_160 : decode cL_law 160 = .ok (.aload_n 0, 1) := by decide +kernel
theorem dL_law_161 : decode cL_law 161 = .ok (.iload_n 3, 1) := by decide +kernel
theorem dL_law_162 : decode cL_law 162 = .ok (.iconst 2, 1) := by decide +kernel
theorem dL_law_163 : decode cL_law 163 = .ok (.iadd, 1) := by decide +kernel
theorem dL_law_164 : decode cL_law 164 = .ok (.iaload, 1) := by decide +kernel
theorem dL_law_165 : decode cL_law 165 = .ok (.invokevirtual 17, 3) := by decide +kernel
theorem dL_law_168 : decode cL_law 168 = .ok (.if_icmp .eq 545, 3) := by decide +kernel
theorem dL_law_171 : decode cL_law 171 = .ok (.iconst 0, 1) := by decide +kernel
theorem dL_law_172 : decode cL_law 172 = .ok (.ireturn, 1) := by decide +kernel
theorem dL_law_173 : decode cL_law 173 = .ok (.aload_n 1, 1) := by decide +kernel
theorem dL_law_174 : decode cL_law 174 = .ok (.aload_n 0, 1) := by decide +kernel
theorem dL_law_175 : decode cL_law 175 = .ok (.iload_n 3, 1) := by decide +kernel
theorem dL_law_176 : decode cL_law 176 = .ok (.iconst 1, 1) := by decide +kernel
theorem dL_law_177 : decode cL_law 177 = .ok (.iadd, 1) := by decide +kernel
theorem dL_law_178 : decode cL_law 178 = .ok (.iaload, 1) := by decide +kernel
theorem dL_law_179 : decode cL_law 179 = .ok (.invokevirtual 18, 3) := by decide +kernel
theorem dL_law_182 : decode cL_law 182 = .ok (.aload_n 2, 1) := by decide +kernel
theorem dL_law_183 : decode cL_law 183 = .ok (.aload_n 0, 1) := by decide +kernel
theorem dL_law_184 : decode cL_law 184 = .ok (.iload_n 3, 1) := by decide +kernel
theorem dL_law_185 : decode cL_law 185 = .ok (.iconst 1, 1) := by decide +kernel
theorem dL_law_186 : decode cL_law 186 = .ok (.iadd, 1) := by decide +kernel
theorem dL_law_187 : decode cL_law 187 = .ok (.iaload, 1) := by decide +kernel
theorem dL_law_188 : decode cL_law 188 = .ok (.invokevirtual 22, 3) := by decide +kernel
theorem dL_law_191 : decode cL_law 191 = .ok (.if_icmp .eq 522, 3) := by decide +kernel
theorem dL_law_194 : decode cL_law 194 = .ok (.iconst 0, 1) := by decide +kernel
theorem dL_law_195 : decode cL_law 195 = .ok (.ireturn, 1) := by decide +kernel
theorem dL_law_196 : decode cL_law 196 = .ok (.aload_n 1, 1) := by decide +kernel
theorem dL_law_197 : decode cL_law 197 = .ok (.aload_n 0, 1) := by decide +kernel
theorem dL_law_198 : decode cL_law 198 = .ok (.iload_n 3, 1) := by decide +kernel
theorem dL_law_199 : decode cL_law 199 = .ok (.iconst 1, 1) := by decide +kernel
theorem dL_law_200 : decode cL_law 200 = .ok (.iadd, 1) := by decide +kernel
theorem dL_law_201 : decode cL_law 201 = .ok (.iaload, 1) := by decide +kernel
theorem dL_law_202 : decode cL_law 202 = .ok (.aload_n 0, 1) := by decide +kernel
theorem dL_law_203 : decode cL_law 203 = .ok (.iload_n 3, 1) := by decide +kernel
theorem dL_law_204 : decode cL_law 204 = .ok (.iconst 2, 1) := by decide +kernel
theorem dL_law_205 : decode cL_law 205 = .ok (.iadd, 1) := by decide +kernel
theorem dL_law_206 : decode cL_law 206 = .ok (.iaload, 1) := by decide +kernel
theorem dL_law_207 : decode cL_law 207 = .ok (.ifCond .eq 7, 3) := by decide +kernel
theorem dL_law_210 : decode cL_law 210 = .ok (.iconst 1, 1) := by decide +kernel
theorem dL_law_211 : decode cL_law 211 = .ok (.goto 4, 3) := by decide +kernel
theorem dL_law_214 : decode cL_law 214 = .ok (.iconst 0, 1) := by decide +kernel
theorem dL_law_215 : decode cL_law 215 = .ok (.invokevirtual 23, 3) := by decide +kernel
theorem dL_law_218 : decode cL_law 218 = .ok (.aload_n 2, 1) := by decide +kernel
theorem dL_law_219 : decode cL_law 219 = .ok (.aload_n 0, 1) := by decide +kernel
theorem dL_law_220 : decode cL_law 220 = .ok (.iload_n 3, 1) := by decide +kernel
theorem dL_law_221 : decode cL_law 221 = .ok (.iconst 1, 1) := by decide +kernel
theorem dL_law_222 : decode cL_law 222 = .ok (.iadd, 1) := by decide +kernel
theorem dL_law_223 : decode cL_law 223 = .ok (.iaload, 1) := by decide +kernel
theorem dL_law_224 : decode cL_law 224 = .ok (.aload_n 0, 1) := by decide +kernel
theorem dL_law_225 : decode cL_law 225 = .ok (.iload_n 3, 1) := by decide +kernel
theorem dL_law_226 : decode cL_law 226 = .ok (.iconst 2, 1) := by decide +kernel
theorem dL_law_227 : decode cL_law 227 = .ok (.iadd, 1) := by decide +kernel
theorem dL_law_228 : decode cL_law 228 = .ok (.iaload, 1) := by decide +kernel
theorem dL_law_229 : decode cL_law 229 = .ok (.ifCond .eq 7, 3) := by decide +kernel
theorem dL_law_232 : decode cL_law 232 = .ok (.iconst 1, 1) := by decide +kernel
theorem dL_law_233 : decode cL_law 233 = .ok (.goto 4, 3) := by decide +kernel
theorem dL_law_236 : decode cL_law 236 = .ok (.iconst 0, 1) := by decide +kernel
theorem dL_law_237 : decode cL_law 237 = .ok (.invokevirtual 27, 3) := by decide +kernel
theorem dL_law_240 : decode cL_law 240 = .ok (.if_icmp .eq 473, 3) := by decide +kernel
theorem dL_law_243 : decode cL_law 243 = .ok (.iconst 0, 1) := by decide +kernel
theorem dL_law_244 : decode cL_law 244 = .ok (.ireturn, 1) := by decide +kernel
theorem dL_law_245 : decode cL_law 245 = .ok (.aload_n 1, 1) := by decide +kernel
theorem dL_law_246 : decode cL_law 246 = .ok (.aload_n 0, 1) := by decide +kernel
theorem dL_law_247 : decode cL_law 247 = .ok (.iload_n 3, 1) := by decide +kernel
theorem dL_law_248 : decode cL_law 248 = .ok (.iconst 1, 1) := by decide +kernel
theorem dL_law_249 : decode cL_law 249 = .ok (.iadd, 1) := by decide +kernel
theorem dL_law_250 : decode cL_law 250 = .ok (.iaload, 1) := by decide +kernel
theorem dL_law_251 : decode cL_law 251 = .ok (.aload_n 0, 1) := by decide +kernel
theorem dL_law_252 : decode cL_law 252 = .ok (.iload_n 3, 1) := by decide +kernel
theorem dL_law_253 : decode cL_law 253 = .ok (.iconst 2, 1) := by decide +kernel
theorem dL_law_254 : decode cL_law 254 = .ok (.iadd, 1) := by decide +kernel
theorem dL_law_255 : decode cL_law 255 = .ok (.iaload, 1) := by decide +kernel
theorem dL_law_256 : decode cL_law 256 = .ok (.aload_n 0, 1) := by decide +kernel
theorem dL_law_257 : decode cL_law 257 = .ok (.iload_n 3, 1) := by decide +kernel
theorem dL_law_258 : decode cL_law 258 = .ok (.iconst 3, 1) := by decide +kernel
theorem dL_law_259 : decode cL_law 259 = .ok (.iadd, 1) := by decide +kernel
theorem dL_law_260 : decode cL_law 260 = .ok (.iaload, 1) := by decide +kernel
theorem dL_law_261 : decode cL_law 261 = .ok (.ifCond .eq 7, 3) := by decide +kernel
theorem dL_law_264 : decode cL_law 264 = .ok (.iconst 1, 1) := by decide +kernel
theorem dL_law_265 : decode cL_law 265 = .ok (.goto 4, 3) := by decide +kernel
theorem dL_law_268 : decode cL_law 268 = .ok (.iconst 0, 1) := by decide +kernel
theorem dL_law_269 : decode cL_law 269 = .ok (.invokevirtual 28, 3) := by decide +kernel
theorem dL_law_272 : decode cL_law 272 = .ok (.aload_n 2, 1) := by decide +kernel
theorem dL_law_273 : decode cL_law 273 = .ok (.aload_n 0, 1) := by decide +kernel
theorem dL_law_274 : decode cL_law 274 = .ok (.iload_n 3, 1) := by decide +kernel
theorem dL_law_275 : decode cL_law 275 = .ok (.iconst 1, 1) := by decide +kernel
theorem dL_law_276 : decode cL_law 276 = .ok (.iadd, 1) := by decide +kernel
theorem dL_law_277 : decode cL_law 277 = .ok (.iaload, 1) := by decide +kernel
theorem dL_law_278 : decode cL_law 278 = .ok (.aload_n 0, 1) := by decide +kernel
theorem dL_law_279 : decode cL_law 279 = .ok (.iload_n 3, 1) := by decide +kernel
theorem dL_law_280 : decode cL_law 280 = .ok (.iconst 2, 1) := by decide +kernel
theorem dL_law_281 : decode cL_law 281 = .ok (.iadd, 1) := by decide +kernel
theorem dL_law_282 : decode cL_law 282 = .ok (.iaload, 1) := by decide +kernel
theorem dL_law_283 : decode cL_law 283 = .ok (.aload_n 0, 1) := by decide +kernel
theorem dL_law_284 : decode cL_law 284 = .ok (.iload_n 3, 1) := by decide +kernel
theorem dL_law_285 : decode cL_law 285 = .ok (.iconst 3, 1) := by decide +kernel
theorem dL_law_286 : decode cL_law 286 = .ok (.iadd, 1) := by decide +kernel
theorem dL_law_287 : decode cL_law 287 = .ok (.iaload, 1) := by decide +kernel
theorem dL_law_288 : decode cL_law 288 = .ok (.ifCond .eq 7, 3) := by decide +kernel
theorem dL_law_291 : decode cL_law 291 = .ok (.iconst 1, 1) := by decide +kernel
theorem dL_law_292 : decode cL_law 292 = .ok (.goto 4, 3) := by decide +kernel
theorem dL_law_295 : decode cL_law 295 = .ok (.iconst 0, 1) := by decide +kernel
theorem dL_law_296 : decode cL_law 296 = .ok (.invokevirtual 32, 3) := by decide +kernel
theorem dL_law_299 : decode cL_law 299 = .ok (.if_icmp .eq 414, 3) := by decide +kernel
theorem dL_law_302 : decode cL_law 302 = .ok (.iconst 0, 1) := by decide +kernel
theorem dL_law_303 : decode cL_law 303 = .ok (.ireturn, 1) := by decide +kernel
theorem dL_law_304 : decode cL_law 304 = .ok (.aload_n 1, 1) := by decide +kernel
theorem dL_law_305 : decode cL_law 305 = .ok (.aload_n 0, 1) := by decide +kernel
theorem dL_law_306 : decode cL_law 306 = .ok (.iload_n 3, 1) := by decide +kernel
theorem dL_law_307 : decode cL_law 307 = .ok (.iconst 1, 1) := by decide +kernel
theorem dL_law_308 : decode cL_law 308 = .ok (.iadd, 1) := by decide +kernel
theorem dL_law_309 : decode cL_law 309 = .ok (.iaload, 1) := by decide +kernel
theorem dL_law_310 : decode cL_law 310 = .ok (.aload_n 0, 1) := by decide +kernel
theorem dL_law_311 : decode cL_law 311 = .ok (.iload_n 3, 1) := by decide +kernel
theorem dL_law_312 : decode cL_law 312 = .ok (.iconst 2, 1) := by decide +kernel
theorem dL_law_313 : decode cL_law 313 = .ok (.iadd, 1) := by decide +kernel
theorem dL_law_314 : decode cL_law 314 = .ok (.iaload, 1) := by decide +kernel
theorem dL_law_315 : decode cL_law 315 = .ok (.aload_n 0, 1) := by decide +kernel
theorem dL_law_316 : decode cL_law 316 = .ok (.iload_n 3, 1) := by decide +kernel
theorem dL_law_317 : decode cL_law 317 = .ok (.iconst 3, 1) := by decide +kernel
theorem dL_law_318 : decode cL_law 318 = .ok (.iadd, 1) := by decide +kernel
theorem dL_law_319 : decode cL_law 319 = .ok (.iaload, 1) := by decide +kernel
theorem dL_law_320 : decode cL_law 320 = .ok (.invokevirtual 33, 3) := by decide +kernel
theorem dL_law_323 : decode cL_law 323 = .ok (.aload_n 2, 1) := by decide +kernel
theorem dL_law_324 : decode cL_law 324 = .ok (.aload_n 0, 1) := by decide +kernel
theorem dL_law_325 : decode cL_law 325 = .ok (.iload_n 3, 1) := by decide +kernel
theorem dL_law_326 : decode cL_law 326 = .ok (.iconst 1, 1) := by decide +kernel
theorem dL_law_327 : decode cL_law 327 = .ok (.iadd, 1) := by decide +kernel
theorem dL_law_328 : decode cL_law 328 = .ok (.iaload, 1) := by decide +kernel
theorem dL_law_329 : decode cL_law 329 = .ok (.aload_n 0, 1) := by decide +kernel
theorem dL_law_330 : decode cL_law 330 = .ok (.iload_n 3, 1) := by decide +kernel
theorem dL_law_331 : decode cL_law 331 = .ok (.iconst 2, 1) := by decide +kernel
theorem dL_law_332 : decode cL_law 332 = .ok (.iadd, 1) := by decide +kernel
theorem dL_law_333 : decode cL_law 333 = .ok (.iaload, 1) := by decide +kernel
theorem dL_law_334 : decode cL_law 334 = .ok (.aload_n 0, 1) := by decide +kernel
theorem dL_law_335 : decode cL_law 335 = .ok (.iload_n 3, 1) := by decide +kernel
theorem dL_law_336 : decode cL_law 336 = .ok (.iconst 3, 1) := by decide +kernel
theorem dL_law_337 : decode cL_law 337 = .ok (.iadd, 1) := by decide +kernel
theorem dL_law_338 : decode cL_law 338 = .ok (.iaload, 1) := by decide +kernel
theorem dL_law_339 : decode cL_law 339 = .ok (.invokevirtual 37, 3) := by decide +kernel
theorem dL_law_342 : decode cL_law 342 = .ok (.if_icmp .eq 371, 3) := by decide +kernel
theorem dL_law_345 : decode cL_law 345 = .ok (.iconst 0, 1) := by decide +kernel
theorem dL_law_346 : decode cL_law 346 = .ok (.ireturn, 1) := by decide +kernel
theorem dL_law_347 : decode cL_law 347 = .ok (.aload_n 1, 1) := by decide +kernel
theorem dL_law_348 : decode cL_law 348 = .ok (.aload_n 0, 1) := by decide +kernel
theorem dL_law_349 : decode cL_law 349 = .ok (.iload_n 3, 1) := by decide +kernel
theorem dL_law_350 : decode cL_law 350 = .ok (.iconst 1, 1) := by decide +kernel
theorem dL_law_351 : decode cL_law 351 = .ok (.iadd, 1) := by decide +kernel
theorem dL_law_352 : decode cL_law 352 = .ok (.iaload, 1) := by decide +kernel
theorem dL_law_353 : decode cL_law 353 = .ok (.aload_n 0, 1) := by decide +kernel
theorem dL_law_354 : decode cL_law 354 = .ok (.iload_n 3, 1) := by decide +kernel
theorem dL_law_355 : decode cL_law 355 = .ok (.iconst 2, 1) := by decide +kernel
theorem dL_law_356 : decode cL_law 356 = .ok (.iadd, 1) := by decide +kernel
theorem dL_law_357 : decode cL_law 357 = .ok (.iaload, 1) := by decide +kernel
theorem dL_law_358 : decode cL_law 358 = .ok (.invokevirtual 38, 3) := by decide +kernel
theorem dL_law_361 : decode cL_law 361 = .ok (.aload_n 2, 1) := by decide +kernel
theorem dL_law_362 : decode cL_law 362 = .ok (.aload_n 0, 1) := by decide +kernel
theorem dL_law_363 : decode cL_law 363 = .ok (.iload_n 3, 1) := by decide +kernel
theorem dL_law_364 : decode cL_law 364 = .ok (.iconst 1, 1) := by decide +kernel
theorem dL_law_365 : decode cL_law 365 = .ok (.iadd, 1) := by decide +kernel
theorem dL_law_366 : decode cL_law 366 = .ok (.iaload, 1) := by decide +kernel
theorem dL_law_367 : decode cL_law 367 = .ok (.aload_n 0, 1) := by decide +kernel
theorem dL_law_368 : decode cL_law 368 = .ok (.iload_n 3, 1) := by decide +kernel
theorem dL_law_369 : decode cL_law 369 = .ok (.iconst 2, 1) := by decide +kernel
theorem dL_law_370 : decode cL_law 370 = .ok (.iadd, 1) := by decide +kernel
theorem dL_law_371 : decode cL_law 371 = .ok (.iaload, 1) := by decide +kernel
theorem dL_law_372 : decode cL_law 372 = .ok (.invokevirtual 41, 3) := by decide +kernel
theorem dL_law_375 : decode cL_law 375 = .ok (.if_icmp .eq 338, 3) := by decide +kernel
theorem dL_law_378 : decode cL_law 378 = .ok (.iconst 0, 1) := by decide +kernel
theorem dL_law_379 : decode cL_law 379 = .ok (.ireturn, 1) := by decide +kernel
theorem dL_law_380 : decode cL_law 380 = .ok (.aload_n 1, 1) := by decide +kernel
theorem dL_law_381 : decode cL_law 381 = .ok (.aload_n 0, 1) := by decide +kernel
theorem dL_law_382 : decode cL_law 382 = .ok (.iload_n 3, 1) := by decide +kernel
theorem dL_law_383 : decode cL_law 383 = .ok (.iconst 1, 1) := by decide +kernel
theorem dL_law_384 : decode cL_law 384 = .ok (.iadd, 1) := by decide +kernel
theorem dL_law_385 : decode cL_law 385 = .ok (.iaload, 1) := by decide +kernel
theorem dL_law_386 : decode cL_law 386 = .ok (.invokevirtual 42, 3) := by decide +kernel
theorem dL_law_389 : decode cL_law 389 = .ok (.aload_n 2, 1) := by decide +kernel
theorem dL_law_390 : decode cL_law 390 = .ok (.aload_n 0, 1) := by decide +kernel
theorem dL_law_391 : decode cL_law 391 = .ok (.iload_n 3, 1) := by decide +kernel
theorem dL_law_392 : decode cL_law 392 = .ok (.iconst 1, 1) := by decide +kernel
theorem dL_law_393 : decode cL_law 393 = .ok (.iadd, 1) := by decide +kernel
theorem dL_law_394 : decode cL_law 394 = .ok (.iaload, 1) := by decide +kernel
theorem dL_law_395 : decode cL_law 395 = .ok (.invokevirtual 45, 3) := by decide +kernel
theorem dL_law_398 : decode cL_law 398 = .ok (.if_icmp .eq 315, 3) := by decide +kernel
theorem dL_law_401 : decode cL_law 401 = .ok (.iconst 0, 1) := by decide +kernel
theorem dL_law_402 : decode cL_law 402 = .ok (.ireturn, 1) := by decide +kernel
theorem dL_law_403 : decode cL_law 403 = .ok (.aload_n 1, 1) := by decide +kernel
theorem dL_law_404 : decode cL_law 404 = .ok (.aload_n 0, 1) := by decide +kernel
theorem dL_law_405 : decode cL_law 405 = .ok (.iload_n 3, 1) := by decide +kernel
theorem dL_law_406 : decode cL_law 406 = .ok (.iconst 1, 1) := by decide +kernel
theorem dL_law_407 : decode cL_law 407 = .ok (.iadd, 1) := by decide +kernel
theorem dL_law_408 : decode cL_law 408 = .ok (.iaload, 1) := by decide +kernel
theorem dL_law_409 : decode cL_law 409 = .ok (.i2c, 1) := by decide +kernel
theorem dL_law_410 : decode cL_law 410 = .ok (.invokevirtual 46, 3) := by decide +kernel
theorem dL_law_413 : decode cL_law 413 = .ok (.aload_n 2, 1) := by decide +kernel
theorem dL_law_414 : decode cL_law 414 = .ok (.aload_n 0, 1) := by decide +kernel
theorem dL_law_415 : decode cL_law 415 = .ok (.iload_n 3, 1) := by decide +kernel
theorem dL_law_416 : decode cL_law 416 = .ok (.iconst 1, 1) := by decide +kernel
theorem dL_law_417 : decode cL_law 417 = .ok (.iadd, 1) := by decide +kernel
theorem dL_law_418 : decode cL_law 418 = .ok (.iaload, 1) := by decide +kernel
theorem dL_law_419 : decode cL_law 419 = .ok (.i2c, 1) := by decide +kernel
theorem dL_law_420 : decode cL_law 420 = .ok (.invokevirtual 50, 3) := by decide +kernel
theorem dL_law_423 : decode cL_law 423 = .ok (.if_icmp .eq 290, 3) := by decide +kernel
theorem dL_law_426 : decode cL_law 426 = .ok (.iconst 0, 1) := by decide +kernel
theorem dL_law_427 : decode cL_law 427 = .ok (.ireturn, 1) := by decide +kernel
theorem dL_law_428 : decode cL_law 428 = .ok (.aload_n 1, 1) := by decide +kernel
theorem dL_law_429 : decode cL_law 429 = .ok (.invokevirtual 51, 3) := by decide +kernel
theorem dL_law_432 : decode cL_law 432 = .ok (.aload_n 2, 1) := by decide +kernel
theorem dL_law_433 : decode cL_law 433 = .ok (.invokevirtual 55, 3) := by decide +kernel
theorem dL_law_436 : decode cL_law 436 = .ok (.if_icmp .eq 277, 3) := by decide +kernel
theorem dL_law_439 : decode cL_law 439 = .ok (.iconst 0, 1) := by decide +kernel
theorem dL_law_440 : decode cL_law 440 = .ok (.ireturn, 1) := by decide +kernel
theorem dL_law_441 : decode cL_law 441 = .ok (.aload_n 1, 1) := by decide +kernel
theorem dL_law_442 : decode cL_law 442 = .ok (.invokevirtual 56, 3) := by decide +kernel
theorem dL_law_445 : decode cL_law 445 = .ok (.aload_n 2, 1) := by decide +kernel
theorem dL_law_446 : decode cL_law 446 = .ok (.invokevirtual 59, 3) := by decide +kernel
theorem dL_law_449 : decode cL_law 449 = .ok (.if_icmp .eq 264, 3) := by decide +kernel
theorem dL_law_452 : decode cL_law 452 = .ok (.iconst 0, 1) := by decide +kernel
theorem dL_law_453 : decode cL_law 453 = .ok (.ireturn, 1) := by decide +kernel
theorem dL_law_454 : decode cL_law 454 = .ok (.aload_n 1, 1) := by decide +kernel
theorem dL_law_455 : decode cL_law 455 = .ok (.invokevirtual 60, 3) := by decide +kernel
theorem dL_law_458 : decode cL_law 458 = .ok (.aload_n 2, 1) := by decide +kernel
theorem dL_law_459 : decode cL_law 459 = .ok (.invokevirtual 63, 3) := by decide +kernel
theorem dL_law_462 : decode cL_law 462 = .ok (.if_icmp .eq 251, 3) := by decide +kernel
theorem dL_law_465 : decode cL_law 465 = .ok (.iconst 0, 1) := by decide +kernel
theorem dL_law_466 : decode cL_law 466 = .ok (.ireturn, 1) := by decide +kernel
theorem dL_law_467 : decode cL_law 467 = .ok (.aload_n 1, 1) := by decide +kernel
theorem dL_law_468 : decode cL_law 468 = .ok (.invokevirtual 64, 3) := by decide +kernel
theorem dL_law_471 : decode cL_law 471 = .ok (.aload_n 2, 1) := by decide +kernel
theorem dL_law_472 : decode cL_law 472 = .ok (.invokevirtual 67, 3) := by decide +kernel
theorem dL_law_475 : decode cL_law 475 = .ok (.if_icmp .eq 238, 3) := by decide +kernel
theorem dL_law_478 : decode cL_law 478 = .ok (.iconst 0, 1) := by decide +kernel
theorem dL_law_479 : decode cL_law 479 = .ok (.ireturn, 1) := by decide +kernel
theorem dL_law_480 : decode cL_law 480 = .ok (.aload_n 1, 1) := by decide +kernel
theorem dL_law_481 : decode cL_law 481 = .ok (.invokevirtual 68, 3) := by decide +kernel
theorem dL_law_484 : decode cL_law 484 = .ok (.aload_n 2, 1) := by decide +kernel
theorem dL_law_485 : decode cL_law 485 = .ok (.invokevirtual 71, 3) := by decide +kernel
theorem dL_law_488 : decode cL_law 488 = .ok (.if_icmp .eq 225, 3) := by decide +kernel
theorem dL_law_491 : decode cL_law 491 = .ok (.iconst 0, 1) := by decide +kernel
theorem dL_law_492 : decode cL_law 492 = .ok (.ireturn, 1) := by decide +kernel
theorem dL_law_493 : decode cL_law 493 = .ok (.aload_n 1, 1) := by decide +kernel
theorem dL_law_494 : decode cL_law 494 = .ok (.aload_n 0, 1) := by decide +kernel
theorem dL_law_495 : decode cL_law 495 = .ok (.iload_n 3, 1) := by decide +kernel
theorem dL_law_496 : decode cL_law 496 = .ok (.iconst 1, 1) := by decide +kernel
theorem dL_law_497 : decode cL_law 497 = .ok (.iadd, 1) := by decide +kernel
theorem dL_law_498 : decode cL_law 498 = .ok (.iaload, 1) := by decide +kernel
theorem dL_law_499 : decode cL_law 499 = .ok (.aload_n 0, 1) := by decide +kernel
theorem dL_law_500 : decode cL_law 500 = .ok (.iload_n 3, 1) := by decide +kernel
theorem dL_law_501 : decode cL_law 501 = .ok (.iconst 2, 1) := by decide +kernel
theorem dL_law_502 : decode cL_law 502 = .ok (.iadd, 1) := by decide +kernel
theorem dL_law_503 : decode cL_law 503 = .ok (.iaload, 1) := by decide +kernel
theorem dL_law_504 : decode cL_law 504 = .ok (.invokevirtual 72, 3) := by decide +kernel
theorem dL_law_507 : decode cL_law 507 = .ok (.aload_n 2, 1) := by decide +kernel
theorem dL_law_508 : decode cL_law 508 = .ok (.aload_n 0, 1) := by decide +kernel
theorem dL_law_509 : decode cL_law 509 = .ok (.iload_n 3, 1) := by decide +kernel
theorem dL_law_510 : decode cL_law 510 = .ok (.iconst 1, 1) := by decide +kernel
theorem dL_law_511 : decode cL_law 511 = .ok (.iadd, 1) := by decide +kernel
theorem dL_law_512 : decode cL_law 512 = .ok (.iaload, 1) := by decide +kernel
theorem dL_law_513 : decode cL_law 513 = .ok (.aload_n 0, 1) := by decide +kernel
theorem dL_law_514 : decode cL_law 514 = .ok (.iload_n 3, 1) := by decide +kernel
theorem dL_law_515 : decode cL_law 515 = .ok (.iconst 2, 1) := by decide +kernel
theorem dL_law_516 : decode cL_law 516 = .ok (.iadd, 1) := by decide +kernel
theorem dL_law_517 : decode cL_law 517 = .ok (.iaload, 1) := by decide +kernel
theorem dL_law_518 : decode cL_law 518 = .ok (.invokevirtual 75, 3) := by decide +kernel
theorem dL_law_521 : decode cL_law 521 = .ok (.if_icmp .eq 192, 3) := by decide +kernel
theorem dL_law_524 : decode cL_law 524 = .ok (.iconst 0, 1) := by decide +kernel
theorem dL_law_525 : decode cL_law 525 = .ok (.ireturn, 1) := by decide +kernel
theorem dL_law_526 : decode cL_law 526 = .ok (.aload_n 1, 1) := by decide +kernel
theorem dL_law_527 : decode cL_law 527 = .ok (.aload_n 0, 1) := by decide +kernel
theorem dL_law_528 : decode cL_law 528 = .ok (.iload_n 3, 1) := by decide +kernel
theorem dL_law_529 : decode cL_law 529 = .ok (.iconst 1, 1) := by decide +kernel
theorem dL_law_530 : decode cL_law 530 = .ok (.iadd, 1) := by decide +kernel
theorem dL_law_531 : decode cL_law 531 = .ok (.iaload, 1) := by decide +kernel
theorem dL_law_532 : decode cL_law 532 = .ok (.aload_n 0, 1) := by decide +kernel
theorem dL_law_533 : decode cL_law 533 = .ok (.iload_n 3, 1) := by decide +kernel
theorem dL_law_534 : decode cL_law 534 = .ok (.iconst 2, 1) := by decide +kernel
theorem dL_law_535 : decode cL_law 535 = .ok (.iadd, 1) := by decide +kernel
theorem dL_law_536 : decode cL_law 536 = .ok (.iaload, 1) := by decide +kernel
theorem dL_law_537 : decode cL_law 537 = .ok (.invokevirtual 76, 3) := by decide +kernel
theorem dL_law_540 : decode cL_law 540 = .ok (.aload_n 2, 1) := by decide +kernel
theorem dL_law_541 : decode cL_law 541 = .ok (.aload_n 0, 1) := by decide +kernel
theorem dL_law_542 : decode cL_law 542 = .ok (.iload_n 3, 1) := by decide +kernel
theorem dL_law_543 : decode cL_law 543 = .ok (.iconst 1, 1) := by decide +kernel
theorem dL_law_544 : decode cL_law 544 = .ok (.iadd, 1) := by decide +kernel
theorem dL_law_545 : decode cL_law 545 = .ok (.iaload, 1) := by decide +kernel
theorem dL_law_546 : decode cL_law 546 = .ok (.aload_n 0, 1) := by decide +kernel
theorem dL_law_547 : decode cL_law 547 = .ok (.iload_n 3, 1) := by decide +kernel
theorem dL_law_548 : decode cL_law 548 = .ok (.iconst 2, 1) := by decide +kernel
theorem dL_law_549 : decode cL_law 549 = .ok (.iadd, 1) := by decide +kernel
theorem dL_law_550 : decode cL_law 550 = .ok (.iaload, 1) := by decide +kernel
theorem dL_law_551 : decode cL_law 551 = .ok (.invokevirtual 79, 3) := by decide +kernel
theorem dL_law_554 : decode cL_law 554 = .ok (.if_icmp .eq 159, 3) := by decide +kernel
theorem dL_law_557 : decode cL_law 557 = .ok (.iconst 0, 1) := by decide +kernel
theorem dL_law_558 : decode cL_law 558 = .ok (.ireturn, 1) := by decide +kernel
theorem dL_law_559 : decode cL_law 559 = .ok (.aload_n 1, 1) := by decide +kernel
theorem dL_law_560 : decode cL_law 560 = .ok (.aload_n 0, 1) := by decide +kernel
theorem dL_law_561 : decode cL_law 561 = .ok (.iload_n 3, 1) := by decide +kernel
theorem dL_law_562 : decode cL_law 562 = .ok (.iconst 1, 1) := by decide +kernel
theorem dL_law_563 : decode cL_law 563 = .ok (.iadd, 1) := by decide +kernel
theorem dL_law_564 : decode cL_law 564 = .ok (.iaload, 1) := by decide +kernel
theorem dL_law_565 : decode cL_law 565 = .ok (.invokevirtual 80, 3) := by decide +kernel
theorem dL_law_568 : decode cL_law 568 = .ok (.aload_n 2, 1) := by decide +kernel
theorem dL_law_569 : decode cL_law 569 = .ok (.aload_n 0, 1) := by decide +kernel
theorem dL_law_570 : decode cL_law 570 = .ok (.iload_n 3, 1) := by decide +kernel
theorem dL_law_571 : decode cL_law 571 = .ok (.iconst 1, 1) := by decide +kernel
theorem dL_law_572 : decode cL_law 572 = .ok (.iadd, 1) := by decide +kernel
theorem dL_law_573 : decode cL_law 573 = .ok (.iaload, 1) := by decide +kernel
theorem dL_law_574 : decode cL_law 574 = .ok (.invokevirtual 83, 3) := by decide +kernel
theorem dL_law_577 : decode cL_law 577 = .ok (.if_icmp .eq 136, 3) := by decide +kernel
theorem dL_law_580 : decode cL_law 580 = .ok (.iconst 0, 1) := by decide +kernel
theorem dL_law_581 : decode cL_law 581 = .ok (.ireturn, 1) := by decide +kernel
theorem dL_law_582 : decode cL_law 582 = .ok (.aload_n 1, 1) := by decide +kernel
theorem dL_law_583 : decode cL_law 583 = .ok (.invokevirtual 84, 3) := by decide +kernel
theorem dL_law_586 : decode cL_law 586 = .ok (.aload_n 2, 1) := by decide +kernel
theorem dL_law_587 : decode cL_law 587 = .ok (.invokevirtual 87, 3) := by decide +kernel
theorem dL_law_590 : decode cL_law 590 = .ok (.if_icmp .eq 123, 3) := by decide +kernel
theorem dL_law_593 : decode cL_law 593 = .ok (.iconst 0, 1) := by decide +kernel
theorem dL_law_594 : decode cL_law 594 = .ok (.ireturn, 1) := by decide +kernel
theorem dL_law_595 : decode cL_law 595 = .ok (.aload_n 1, 1) := by decide +kernel
theorem dL_law_596 : decode cL_law 596 = .ok (.invokevirtual 88, 3) := by decide +kernel
theorem dL_law_599 : decode cL_law 599 = .ok (.aload_n 2, 1) := by decide +kernel
theorem dL_law_600 : decode cL_law 600 = .ok (.invokevirtual 91, 3) := by decide +kernel
theorem dL_law_603 : decode cL_law 603 = .ok (.if_icmp .eq 110, 3) := by decide +kernel
theorem dL_law_606 : decode cL_law 606 = .ok (.iconst 0, 1) := by decide +kernel
theorem dL_law_607 : decode cL_law 607 = .ok (.ireturn, 1) := by decide +kernel
theorem dL_law_608 : decode cL_law 608 = .ok (.aload_n 1, 1) := by decide +kernel
theorem dL_law_609 : decode cL_law 609 = .ok (.invokevirtual 92, 3) := by decide +kernel
theorem dL_law_612 : decode cL_law 612 = .ok (.aload_n 2, 1) := by decide +kernel
theorem dL_law_613 : decode cL_law 613 = .ok (.invokevirtual 95, 3) := by decide +kernel
theorem dL_law_616 : decode cL_law 616 = .ok (.if_icmp .eq 97, 3) := by decide +kernel
theorem dL_law_619 : decode cL_law 619 = .ok (.iconst 0, 1) := by decide +kernel
theorem dL_law_620 : decode cL_law 620 = .ok (.ireturn, 1) := by decide +kernel
theorem dL_law_621 : decode cL_law 621 = .ok (.aload_n 1, 1) := by decide +kernel
theorem dL_law_622 : decode cL_law 622 = .ok (.aload_n 0, 1) := by decide +kernel
theorem dL_law_623 : decode cL_law 623 = .ok (.iload_n 3, 1) := by decide +kernel
theorem dL_law_624 : decode cL_law 624 = .ok (.iconst 1, 1) := by decide +kernel
theorem dL_law_625 : decode cL_law 625 = .ok (.iadd, 1) := by decide +kernel
theorem dL_law_626 : decode cL_law 626 = .ok (.iaload, 1) := by decide +kernel
theorem dL_law_627 : decode cL_law 627 = .ok (.aload_n 0, 1) := by decide +kernel
theorem dL_law_628 : decode cL_law 628 = .ok (.iload_n 3, 1) := by decide +kernel
theorem dL_law_629 : decode cL_law 629 = .ok (.iconst 2, 1) := by decide +kernel
theorem dL_law_630 : decode cL_law 630 = .ok (.iadd, 1) := by decide +kernel
theorem dL_law_631 : decode cL_law 631 = .ok (.iaload, 1) := by decide +kernel
theorem dL_law_632 : decode cL_law 632 = .ok (.invokevirtual 96, 3) := by decide +kernel
theorem dL_law_635 : decode cL_law 635 = .ok (.aload_n 2, 1) := by decide +kernel
theorem dL_law_636 : decode cL_law 636 = .ok (.aload_n 0, 1) := by decide +kernel
theorem dL_law_637 : decode cL_law 637 = .ok (.iload_n 3, 1) := by decide +kernel
theorem dL_law_638 : decode cL_law 638 = .ok (.iconst 1, 1) := by decide +kernel
theorem dL_law_639 : decode cL_law 639 = .ok (.iadd, 1) := by decide +kernel
theorem dL_law_640 : decode cL_law 640 = .ok (.iaload, 1) := by decide +kernel
theorem dL_law_641 : decode cL_law 641 = .ok (.aload_n 0, 1) := by decide +kernel
theorem dL_law_642 : decode cL_law 642 = .ok (.iload_n 3, 1) := by decide +kernel
theorem dL_law_643 : decode cL_law 643 = .ok (.iconst 2, 1) := by decide +kernel
theorem dL_law_644 : decode cL_law 644 = .ok (.iadd, 1) := by decide +kernel
theorem dL_law_645 : decode cL_law 645 = .ok (.iaload, 1) := by decide +kernel
theorem dL_law_646 : decode cL_law 646 = .ok (.invokevirtual 99, 3) := by decide +kernel
theorem dL_law_649 : decode cL_law 649 = .ok (.if_icmp .eq 64, 3) := by decide +kernel
theorem dL_law_652 : decode cL_law 652 = .ok (.iconst 0, 1) := by decide +kernel
theorem dL_law_653 : decode cL_law 653 = .ok (.ireturn, 1) := by decide +kernel
theorem dL_law_654 : decode cL_law 654 = .ok (.aload_n 1, 1) := by decide +kernel
theorem dL_law_655 : decode cL_law 655 = .ok (.invokevirtual 100, 3) := by decide +kernel
theorem dL_law_658 : decode cL_law 658 = .ok (.aload_n 2, 1) := by decide +kernel
theorem dL_law_659 : decode cL_law 659 = .ok (.invokevirtual 103, 3) := by decide +kernel
theorem dL_law_662 : decode cL_law 662 = .ok (.if_icmp .eq 51, 3) := by decide +kernel
theorem dL_law_665 : decode cL_law 665 = .ok (.iconst 0, 1) := by decide +kernel
theorem dL_law_666 : decode cL_law 666 = .ok (.ireturn, 1) := by decide +kernel
theorem dL_law_667 : decode cL_law 667 = .ok (.aload_n 1, 1) := by decide +kernel
theorem dL_law_668 : decode cL_law 668 = .ok (.aload_n 0, 1) := by decide +kernel
theorem dL_law_669 : decode cL_law 669 = .ok (.iload_n 3, 1) := by decide +kernel
theorem dL_law_670 : decode cL_law 670 = .ok (.iconst 1, 1) := by decide +kernel
theorem dL_law_671 : decode cL_law 671 = .ok (.iadd, 1) := by decide +kernel
theorem dL_law_672 : decode cL_law 672 = .ok (.iaload, 1) := by decide +kernel
theorem dL_law_673 : decode cL_law 673 = .ok (.invokevirtual 104, 3) := by decide +kernel
theorem dL_law_676 : decode cL_law 676 = .ok (.aload_n 2, 1) := by decide +kernel
theorem dL_law_677 : decode cL_law 677 = .ok (.aload_n 0, 1) := by decide +kernel
theorem dL_law_678 : decode cL_law 678 = .ok (.iload_n 3, 1) := by decide +kernel
theorem dL_law_679 : decode cL_law 679 = .ok (.iconst 1, 1) := by decide +kernel
theorem dL_law_680 : decode cL_law 680 = .ok (.iadd, 1) := by decide +kernel
theorem dL_law_681 : decode cL_law 681 = .ok (.iaload, 1) := by decide +kernel
theorem dL_law_682 : decode cL_law 682 = .ok (.invokevirtual 107, 3) := by decide +kernel
theorem dL_law_685 : decode cL_law 685 = .ok (.if_icmp .eq 28, 3) := by decide +kernel
theorem dL_law_688 : decode cL_law 688 = .ok (.iconst 0, 1) := by decide +kernel
theorem dL_law_689 : decode cL_law 689 = .ok (.ireturn, 1) := by decide +kernel
theorem dL_law_690 : decode cL_law 690 = .ok (.aload_n 1, 1) := by decide +kernel
theorem dL_law_691 : decode cL_law 691 = .ok (.aload_n 0, 1) := by decide +kernel
theorem dL_law_692 : decode cL_law 692 = .ok (.iload_n 3, 1) := by decide +kernel
theorem dL_law_693 : decode cL_law 693 = .ok (.iconst 1, 1) := by decide +kernel
theorem dL_law_694 : decode cL_law 694 = .ok (.iadd, 1) := by decide +kernel
theorem dL_law_695 : decode cL_law 695 = .ok (.iaload, 1) := by decide +kernel
theorem dL_law_696 : decode cL_law 696 = .ok (.invokevirtual 108, 3) := by decide +kernel
theorem dL_law_699 : decode cL_law 699 = .ok (.aload_n 2, 1) := by decide +kernel
theorem dL_law_700 : decode cL_law 700 = .ok (.aload_n 0, 1) := by decide +kernel
theorem dL_law_701 : decode cL_law 701 = .ok (.iload_n 3, 1) := by decide +kernel
theorem dL_law_702 : decode cL_law 702 = .ok (.iconst 1, 1) := by decide +kernel
theorem dL_law_703 : decode cL_law 703 = .ok (.iadd, 1) := by decide +kernel
theorem dL_law_704 : decode cL_law 704 = .ok (.iaload, 1) := by decide +kernel
theorem dL_law_705 : decode cL_law 705 = .ok (.invokevirtual 111, 3) := by decide +kernel
theorem dL_law_708 : decode cL_law 708 = .ok (.if_icmp .eq 5, 3) := by decide +kernel
theorem dL_law_711 : decode cL_law 711 = .ok (.iconst 0, 1) := by decide +kernel
theorem dL_law_712 : decode cL_law 712 = .ok (.ireturn, 1) := by decide +kernel
theorem dL_law_713 : decode cL_law 713 = .ok (.iinc 3 4, 3) := by decide +kernel
theorem dL_law_716 : decode cL_law 716 = .ok (.goto (-698), 3) := by decide +kernel
theorem dL_law_719 : decode cL_law 719 = .ok (.iconst 1, 1) := by decide +kernel
theorem dL_law_720 : decode cL_law 720 = .ok (.ireturn, 1) := by decide +kernel
end
section
-- the tables' words that can be handed on, and those that cannot (they go beside)
def gtbl : List Cond := lw_tbl.filter goodWord
theorem gw {w : Cond} (i : Nat) (h : tables_1[i]? = some w) (hg : goodWord w = true) : w ∈ gtbl := List.mem_filter.mpr ⟨List.mem_append_right _ (List.mem_of_getElem? h), hg⟩
theorem gwp {w : Cond} (i : Nat) (h : (k2_sels lw_privs)[i]? = some w) (hg : goodWord w = true) : w ∈ gtbl := List.mem_filter.mpr ⟨List.mem_append_left _ (List.mem_of_getElem? h), hg⟩
theorem gd_all : GoodIn gtbl gtbl := fun w h => ⟨h, good_of_word (List.mem_filter.mp h).2⟩
theorem gd_c {w : Cond} (h : w ∈ gtbl) : GoodIn gtbl (w :: gtbl) := fun x hx => by
  rcases List.mem_cons.mp hx with rfl | hx
  · exact gd_all _ h
  · exact gd_all _ hx
def gN (U : State) : Prop :=
  va_Nw (.methodLinkNest "BlinkMesh" 9 yX1_init "BlinkMesh") U ∧ va_Nw (.fieldLinkNest "BlinkMesh$Mesh" 33 "BlinkMesh" "FIRST_SETTING" "[I" "BlinkMesh") U ∧ va_Nw (.castable "[I" "java/lang/Cloneable") U ∧ va_Nw (.methodLinkNest "BlinkMesh$History" 17 yX1_init "BlinkMesh") U ∧ va_Nw (.methodLinkNest "BlinkMesh" 35 yX2_init "BlinkMesh") U ∧ va_Nw (.methodLinkNest "BlinkMesh$Mesh" 72 yX3_holds "BlinkMesh") U ∧ va_Nw (.methodLinkNest "BlinkMesh$MeshText" 43 yX3_holds "BlinkMesh") U
theorem gN.warm {s U : State} (hW : s.WarmedH U.vm) (h : gN s) : gN U :=
  ⟨va_Nw.warmM hW h.1, va_Nw.warmF hW h.2.1, va_Nw.warmC hW h.2.2.1, va_Nw.warmM hW h.2.2.2.1, va_Nw.warmM hW h.2.2.2.2.1, va_Nw.warmM hW h.2.2.2.2.2.1, va_Nw.warmM hW h.2.2.2.2.2.2⟩
theorem gN.same {s U : State} (e : s.vm = U.vm) (h : gN s) : gN U :=
  ⟨va_Nw.same rfl e h.1, va_Nw.same rfl e h.2.1, va_Nw.same rfl e h.2.2.1, va_Nw.same rfl e h.2.2.2.1, va_Nw.same rfl e h.2.2.2.2.1, va_Nw.same rfl e h.2.2.2.2.2.1, va_Nw.same rfl e h.2.2.2.2.2.2⟩
-- the world: 80 cells with fixed numbers; meshes at 9j (j = 0..6) with their eight arrays behind them; 63 History, 64 its states, 65 MeshText, 66..69 its arrays, 70 BlinkMesh, 71 BlinkMeshModel, 72..79 its arrays
abbrev gT : Type := ClassId × ClassId × ClassId
abbrev gG : Type := Nat → Nat → Int32
def gu (G : gG) (k i : Nat) (x : Int32) : gG := fun a b => if a = k then (if b = i then x else G a b) else G a b
theorem gu_ne {G : gG} {k i a : Nat} {x : Int32} (h : a ≠ k) : gu G k i x a = G a := by
  funext b; simp [gu, h]
theorem gu_eq {G : gG} {k i : Nat} {x : Int32} : gu G k i x k = upd (G k) i x := by
  funext b; simp [gu, upd]
def ce (t : gT) (ad : Nat → Nat) (k : Nat) (g : Nat → Int32) : va_E :=
  if k < 63 then
    (if k % 9 = 0 then .inr (1, [.ref (ad (k + 1)), .ref (ad (k + 2)), .ref (ad (k + 3)), .ref (ad (k + 4)), .ref (ad (k + 5)), .ref (ad (k + 6)), .ref (ad (k + 7)), .ref (ad (k + 8)), .int (g 8), .int (g 9), .int (g 10), .int (g 11), .int (g 12), .int (g 13), .int (g 14)])
     else if k % 9 = 8 then .inl (t.1, 3, .inl g) else .inl (t.1, 16, .inl g))
  else match k with
    | 63 => .inr (0, [.ref (ad 64), .int (g 1)])
    | 64 => .inl (t.2.2, 4, .inr (.inr (.inr (.inr (fun i => some (ad (g i).toNatClampNeg))))))
    | 65 => .inr (2, [.ref (ad 66), .int (g 1), .int (g 2), .ref (ad 67), .ref (ad 68), .int (g 5), .ref (ad 69)])
    | 66 => .inl (t.2.1, 60, .inl g)
    | 67 => .inl (t.1, 16, .inl g)
    | 68 => .inl (t.1, 16, .inl g)
    | 69 => .inl (t.1, 16, .inl g)
    | 70 => .inr (3, [.ref (ad 0), .ref (ad 9), .ref (ad 18), .int (g 3), .ref (ad 63), .ref (ad 65)])
    | 71 => .inr (4, [.ref (ad 72), .ref (ad 73), .int (g 2), .ref (ad 74), .int (g 4), .ref (ad 75), .ref (ad 76), .int (g 7), .int (g 8), .int (g 9), .ref (ad 77), .ref (ad 78), .ref (ad 79)])
    | 72 => .inl (t.1, 152, .inl g)
    | 73 => .inl (t.1, 608, .inl g)
    | 74 => .inl (t.1, 152, .inl g)
    | 75 => .inl (t.1, 152, .inl g)
    | 76 => .inl (t.2.1, 60, .inl g)
    | _ => .inl (t.1, 16, .inl g)
def isM (k : Nat) : Prop := k < 63 ∧ k % 9 = 0
theorem ce_m {t : gT} {ad : Nat → Nat} {k : Nat} {g : Nat → Int32} (h : isM k) : ce t ad k g = .inr (1, [.ref (ad (k + 1)), .ref (ad (k + 2)), .ref (ad (k + 3)), .ref (ad (k + 4)), .ref (ad (k + 5)), .ref (ad (k + 6)), .ref (ad (k + 7)), .ref (ad (k + 8)), .int (g 8), .int (g 9), .int (g 10), .int (g 11), .int (g 12), .int (g 13), .int (g 14)]) := by
  unfold ce; rw [if_pos h.1, if_pos h.2]
theorem ce_ma {t : gT} {ad : Nat → Nat} {k f : Nat} {g : Nat → Int32} (h : isM k) (h1 : 1 ≤ f) (h7 : f ≤ 7) : ce t ad (k + f) g = .inl (t.1, 16, .inl g) := by
  have := h.1; have := h.2
  unfold ce; rw [if_pos (by omega), if_neg (by omega), if_neg (by omega)]
theorem ce_m8 {t : gT} {ad : Nat → Nat} {k : Nat} {g : Nat → Int32} (h : isM k) : ce t ad (k + 8) g = .inl (t.1, 3, .inl g) := by
  have := h.1; have := h.2
  unfold ce; rw [if_pos (by omega), if_neg (by omega), if_pos (by omega)]
theorem isM_lt {k f : Nat} (h : isM k) (hf : f ≤ 8) : k + f < 80 := by have := h.1; omega
abbrev tys (t : gT) : List (ClassId × FieldType) := [(t.1, .int), (t.2.1, .char), (t.2.2, .object "BlinkMesh$Mesh")]
def gws (t : gT) (ad : Nat → Nat) (G : gG) : va_W := (List.range 80).map (fun k => (ad k, ce t ad k (G k)))
theorem gws_at {t : gT} {ad : Nat → Nat} {G : gG} {k : Nat} (hk : k < 80) : (gws t ad G)[k]? = some (ad k, ce t ad k (G k)) := by
  simp [gws, hk]
theorem gws_ate {t : gT} {ad : Nat → Nat} {G : gG} {k : Nat} {e : va_E} (hk : k < 80) (he : ce t ad k (G k) = e) : (gws t ad G)[k]? = some (ad k, e) := by
  rw [gws_at hk, he]
theorem gws_set {t : gT} {ad : Nat → Nat} {G G' : gG} {k : Nat} {e : va_E} (hk : k < 80) (he : ce t ad k (G' k) = e) (h2 : ∀ j, j ≠ k → G' j = G j) : (gws t ad G).set k (ad k, e) = gws t ad G' := by
  apply List.ext_getElem?
  intro j
  by_cases hj : j = k
  · subst hj
    rw [List.getElem?_set_self (by simp [gws, hk]), gws_at hk, he]
  · rw [List.getElem?_set_ne (Ne.symm hj)]
    by_cases hl : j < 80
    · rw [gws_at hl, gws_at hl, h2 j hj]
    · simp [gws, Nat.le_of_not_lt hl]
def isW (ad : Nat → Nat) : Nat → Prop := fun q => ∃ k, k < 80 ∧ ad k = q
def lstT (j : Nat) : Int32 := if j = 0 then 10 else 0
def grtT (j : Nat) : Int32 := if j = 0 then 200 else if j = 1 then 100 else 99
def gS (ad : Nat → Nat) (A : Nat → Prop) (U : State) (H : Heap) : Prop :=
  va_Z "BlinkMesh" "LEAST_SETTING" "[I" (.ref (ad 80)) A U H ∧ va_T .int (ad 80) 3 (fun j => .int (lstT j)) A U H ∧ va_Z "BlinkMesh" "GREATEST_SETTING" "[I" (.ref (ad 81)) A U H ∧ va_T .int (ad 81) 3 (fun j => .int (grtT j)) A U H
theorem gS.to {ad : Nat → Nat} {A B : Nat → Prop} {u U : State} {H H1 : Heap} (h : gS ad A u H) (hvm : u.vm.Alike U.vm) (hq : ∀ a : Nat, a < H.size → ¬ A a → H1[a]? = H[a]?) (hAB : ∀ q, B q → A q) : gS ad B U H1 :=
  ⟨((h.1.moved hvm).kept hq).narrow hAB, ((h.2.1.moved hvm).kept hq).narrow hAB, ((h.2.2.1.moved hvm).kept hq).narrow hAB, ((h.2.2.2.moved hvm).kept hq).narrow hAB⟩
-- locals by their numbers
def lh (ls : Array Slot) (n : Nat) (Lv : List (Option Value)) : Prop := ls.size = n ∧ lv_wf ls ∧ ∀ (i : Nat) (v : Value), Lv[i]? = some (some v) → ls[i]? = some (.val v) ∧ v.category = 1
def la (Lv : List (Option Value)) : List (Nat × Value) := (List.range Lv.length).filterMap (fun i => (Lv[i]?.join).map (fun v => (i, v)))
theorem la_mem {Lv : List (Option Value)} {q : Nat × Value} : q ∈ la Lv ↔ Lv[q.1]? = some (some q.2) := by
  unfold la
  rw [List.mem_filterMap]
  constructor
  · rintro ⟨i, hi, h⟩
    cases hx : Lv[i]? with
    | none => rw [hx] at h; simp at h
    | some o =>
      cases o with
      | none => rw [hx] at h; simp at h
      | some v => rw [hx] at h; simp at h; subst h; simpa using hx
  · intro h
    refine ⟨q.1, ?_, by rw [h]; rfl⟩
    rw [List.mem_range]
    exact (List.getElem?_eq_some_iff.mp h).1
theorem lh.has {ls : Array Slot} {n : Nat} {Lv : List (Option Value)} (h : lh ls n Lv) : lv_has ls n (la Lv) :=
  ⟨h.1, h.2.1, fun q hq => (h.2.2 q.1 q.2 (la_mem.mp hq)).1⟩
theorem lh.st {ls' : Array Slot} {ls : Array Slot} {n i : Nat} {v : Value} {Lv : List (Option Value)} (h : lh ls n Lv) (hc : v.category = 1) (h' : lv_has ls' n ((i, v) :: (la Lv).filter (fun q => !(q.1 == i) && !(q.1 + 1 == i && q.2.category == 2)))) : lh ls' n (Lv.set i (some v)) := by
  refine ⟨h'.1, h'.2.1, fun j w hw => ?_⟩
  by_cases hj : j = i
  · subst hj
    have hw2 : w = v := by
      rw [List.getElem?_set] at hw
      split at hw
      · split at hw
        · simpa using hw.symm
        · simp at hw
      · rename_i hne; exact absurd rfl hne
    subst hw2
    exact ⟨h'.2.2 (j, w) List.mem_cons_self, hc⟩
  · rw [List.getElem?_set_ne (Ne.symm hj)] at hw
    have hc2 := (h.2.2 j w hw).2
    refine ⟨h'.2.2 (j, w) (List.mem_cons_of_mem _ (List.mem_filter.mpr ⟨la_mem.mpr hw, ?_⟩)), hc2⟩
    simp [hj, hc2]
theorem lh.mono {ls : Array Slot} {n : Nat} {Lv Lv' : List (Option Value)} (h : lh ls n Lv) (hs : ∀ (i : Nat) (v : Value), Lv'[i]? = some (some v) → Lv[i]? = some (some v)) : lh ls n Lv' :=
  ⟨h.1, h.2.1, fun i v hv => h.2.2 i v (hs i v hv)⟩
def gC (p : Program) (s : State) (m : MethodId) (args : Array Value) (meth : Method) (c : Code) (cc : ByteArray) (own : String) (n : Nat) (ret : Option FieldType) (A : Nat → Prop) (D : va_G) (t : gT) (ad : Nat → Nat) : Prop :=
  p.tables.exec = Jvm.exec ∧ c.code = cc ∧ c.maxLocals = n ∧ s.vm.findClass own = some m.cls ∧ (∀ w ∈ gtbl, w.before args s = true) ∧ va_K D vwCl (tys t) s ∧ (∀ i j, i < 80 → j < 80 → ad i = ad j → i = j) ∧ (∀ k, k < 80 → A (ad k)) ∧ gS ad A s s.heap ∧ gN s ∧ meth.sig.returnType = ret ∧ meth.locks = false
def V (p : Program) (l : Launch) (e : Env) (R : Room) (s : State) (m : MethodId) (args : Array Value) (below : List Frame) (meth : Method) (c : Code) (A : Nat → Prop) (D : va_G) (t : gT) (ad : Nat → Nat) (cells slots n : Nat) (Q : State → Prop) (G : gG) (pc : Nat) (Lv : List (Option Value)) (st : List Value) : Prop :=
  ∀ (H : Heap) (locs : List Loc) (ls : Array Slot), va_P D vwCl (gws t ad G) H → va_S A s.heap H locs → lh ls n Lv → W p l e R s m args below meth c H locs cells slots Q (F0 m pc ls st)
theorem gD {A : Nat → Prop} {t : gT} {ad : Nat → Nat} {G : gG} (hi : ∀ i j, i < 80 → j < 80 → ad i = ad j → i = j) (hA : ∀ k, k < 80 → A (ad k)) : va_D A (gws t ad G) := by
  have key : ∀ (i : Nat) (p : Nat × va_E), (gws t ad G)[i]? = some p → i < 80 ∧ p.1 = ad i := by
    intro i p h
    by_cases hl : i < 80
    · rw [gws_at hl] at h; cases h; exact ⟨hl, rfl⟩
    · simp [gws, Nat.le_of_not_lt hl] at h
  refine ⟨fun i j p q h1 h2 h => ?_, fun k q h => ?_⟩
  · obtain ⟨a1, a2⟩ := key i p h1
    obtain ⟨b1, b2⟩ := key j q h2
    exact hi i j a1 b1 (by rw [← a2, ← b2]; exact h)
  · obtain ⟨a1, a2⟩ := key k q h
    rw [a2]; exact hA k a1
theorem gc_D {p : Program} {s : State} {m : MethodId} {args : Array Value} {meth : Method} {c : Code} {cc : ByteArray} {own : String} {n : Nat} {ret : Option FieldType} {A : Nat → Prop} {D : va_G} {t : gT} {ad : Nat → Nat} (C : gC p s m args meth c cc own n ret A D t ad) (G : gG) : va_D A (gws t ad G) := gD C.2.2.2.2.2.2.1 C.2.2.2.2.2.2.2.1
section V1
variable {p : Program} {l : Launch} {e : Env} {R : Room} {s : State} {m : MethodId} {args : Array Value} {below : List Frame} {meth : Method} {c : Code} {A : Nat → Prop} {D : va_G} {t : gT} {ad : Nat → Nat} {cells slots n : Nat} {Q : State → Prop} {G : gG} {pc : Nat} {Lv : List (Option Value)} {st : List Value} {cc : ByteArray} {own : String} {ret : Option FieldType}
theorem v_iconst (C : gC p s m args meth c cc own n ret A D t ad) {z : Int} {v : Int32} (d : decode cc pc = .ok (.iconst z, 1)) (hv : Int32.ofInt z = v) (kk : V p l e R s m args below meth c A D t ad cells slots n Q G (pc + 1) Lv (.int v :: st)) : V p l e R s m args below meth c A D t ad cells slots n Q G pc Lv st :=
  fun H locs ls hP hS hl => lv_iconst C.1 C.2.1 d hv (kk H locs ls hP hS hl)
theorem v_bipush (C : gC p s m args meth c cc own n ret A D t ad) {z : Int} {v : Int32} (d : decode cc pc = .ok (.bipush z, 2)) (hv : (Int8.ofInt z).toInt32 = v) (kk : V p l e R s m args below meth c A D t ad cells slots n Q G (pc + 2) Lv (.int v :: st)) : V p l e R s m args below meth c A D t ad cells slots n Q G pc Lv st :=
  fun H locs ls hP hS hl => lv_bipush C.1 C.2.1 d hv (kk H locs ls hP hS hl)
theorem v_sipush (C : gC p s m args meth c cc own n ret A D t ad) {z : Int} {v : Int32} (d : decode cc pc = .ok (.sipush z, 3)) (hv : (Int16.ofInt z).toInt32 = v) (kk : V p l e R s m args below meth c A D t ad cells slots n Q G (pc + 3) Lv (.int v :: st)) : V p l e R s m args below meth c A D t ad cells slots n Q G pc Lv st :=
  fun H locs ls hP hS hl => lv_sipush C.1 C.2.1 d hv (kk H locs ls hP hS hl)
theorem v_iloadn (C : gC p s m args meth c cc own n ret A D t ad) {k : Fin 4} {x : Int32} (d : decode cc pc = .ok (.iload_n k, 1)) (hi : Lv[(k : Nat)]? = some (some (.int x))) (kk : V p l e R s m args below meth c A D t ad cells slots n Q G (pc + 1) Lv (.int x :: st)) : V p l e R s m args below meth c A D t ad cells slots n Q G pc Lv st :=
  fun H locs ls hP hS hl => lv_iload_n C.1 C.2.1 d rfl (hl.2.2 _ _ hi).1 (kk H locs ls hP hS hl)
theorem v_iload (C : gC p s m args meth c cc own n ret A D t ad) {k : Nat} {x : Int32} (d : decode cc pc = .ok (.iload k, 2)) (hi : Lv[k]? = some (some (.int x))) (kk : V p l e R s m args below meth c A D t ad cells slots n Q G (pc + 2) Lv (.int x :: st)) : V p l e R s m args below meth c A D t ad cells slots n Q G pc Lv st :=
  fun H locs ls hP hS hl => lv_iload C.1 C.2.1 d (hl.2.2 _ _ hi).1 (kk H locs ls hP hS hl)
theorem v_aloadn (C : gC p s m args meth c cc own n ret A D t ad) {k : Fin 4} {x : Nat} (d : decode cc pc = .ok (.aload_n k, 1)) (hi : Lv[(k : Nat)]? = some (some (.ref x))) (kk : V p l e R s m args below meth c A D t ad cells slots n Q G (pc + 1) Lv (.ref x :: st)) : V p l e R s m args below meth c A D t ad cells slots n Q G pc Lv st :=
  fun H locs ls hP hS hl => lv_aload_n C.1 C.2.1 d rfl (hl.2.2 _ _ hi).1 (kk H locs ls hP hS hl)
theorem v_istoren (C : gC p s m args meth c cc own n ret A D t ad) {k : Fin 4} {x : Int32} (d : decode cc pc = .ok (.istore_n k, 1)) (hn : (k : Nat) < n) (kk : V p l e R s m args below meth c A D t ad cells slots n Q G (pc + 1) (Lv.set k (some (.int x))) st) : V p l e R s m args below meth c A D t ad cells slots n Q G pc Lv (.int x :: st) :=
  fun H locs ls hP hS hl => lv_istore_n C.1 C.2.1 d rfl hl.has hn rfl (fun ls' hl' => kk H locs ls' hP hS (hl.st rfl hl'))
theorem v_istore (C : gC p s m args meth c cc own n ret A D t ad) {k : Nat} {x : Int32} (d : decode cc pc = .ok (.istore k, 2)) (hn : k < n) (kk : V p l e R s m args below meth c A D t ad cells slots n Q G (pc + 2) (Lv.set k (some (.int x))) st) : V p l e R s m args below meth c A D t ad cells slots n Q G pc Lv (.int x :: st) :=
  fun H locs ls hP hS hl => lv_istore C.1 C.2.1 d hl.has hn rfl (fun ls' hl' => kk H locs ls' hP hS (hl.st rfl hl'))
theorem v_astoren (C : gC p s m args meth c cc own n ret A D t ad) {k : Fin 4} {x : Nat} (d : decode cc pc = .ok (.astore_n k, 1)) (hn : (k : Nat) < n) (kk : V p l e R s m args below meth c A D t ad cells slots n Q G (pc + 1) (Lv.set k (some (.ref x))) st) : V p l e R s m args below meth c A D t ad cells slots n Q G pc Lv (.ref x :: st) :=
  fun H locs ls hP hS hl => lv_astore_n C.1 C.2.1 d rfl hl.has hn rfl (fun ls' hl' => kk H locs ls' hP hS (hl.st rfl hl'))
theorem v_iinc (C : gC p s m args meth c cc own n ret A D t ad) {k : Nat} {z : Int} {x v : Int32} (d : decode cc pc = .ok (.iinc k z, 3)) (hi : Lv[k]? = some (some (.int x))) (hv : Int32.ofInt z = v) (hn : k < n) (kk : V p l e R s m args below meth c A D t ad cells slots n Q G (pc + 3) (Lv.set k (some (.int (x + v)))) st) : V p l e R s m args below meth c A D t ad cells slots n Q G pc Lv st := by
  intro H locs ls hP hS hl
  obtain ⟨j, hj⟩ := List.getElem?_of_mem (la_mem (q := (k, Value.int x)).mpr hi)
  exact lv_iinc C.1 C.2.1 d hl.has (k := j) hj (by rw [hv]) hn rfl (fun ls' hl' => kk H locs ls' hP hS (hl.st rfl hl'))
theorem v_iadd (C : gC p s m args meth c cc own n ret A D t ad) {x y : Int32} (d : decode cc pc = .ok (.iadd, 1)) (kk : V p l e R s m args below meth c A D t ad cells slots n Q G (pc + 1) Lv (.int (x + y) :: st)) : V p l e R s m args below meth c A D t ad cells slots n Q G pc Lv (.int y :: .int x :: st) :=
  fun H locs ls hP hS hl => lv_iadd C.1 C.2.1 d (kk H locs ls hP hS hl)
theorem v_isub (C : gC p s m args meth c cc own n ret A D t ad) {x y : Int32} (d : decode cc pc = .ok (.isub, 1)) (kk : V p l e R s m args below meth c A D t ad cells slots n Q G (pc + 1) Lv (.int (x - y) :: st)) : V p l e R s m args below meth c A D t ad cells slots n Q G pc Lv (.int y :: .int x :: st) :=
  fun H locs ls hP hS hl => lv_isub C.1 C.2.1 d (kk H locs ls hP hS hl)
theorem v_imul (C : gC p s m args meth c cc own n ret A D t ad) {x y : Int32} (d : decode cc pc = .ok (.imul, 1)) (kk : V p l e R s m args below meth c A D t ad cells slots n Q G (pc + 1) Lv (.int (x * y) :: st)) : V p l e R s m args below meth c A D t ad cells slots n Q G pc Lv (.int y :: .int x :: st) :=
  fun H locs ls hP hS hl => lv_imul C.1 C.2.1 d (kk H locs ls hP hS hl)
theorem v_idiv (C : gC p s m args meth c cc own n ret A D t ad) {x y : Int32} (d : decode cc pc = .ok (.idiv, 1)) (hne : ¬ y = 0) (kk : V p l e R s m args below meth c A D t ad cells slots n Q G (pc + 1) Lv (.int (x / y) :: st)) : V p l e R s m args below meth c A D t ad cells slots n Q G pc Lv (.int y :: .int x :: st) :=
  fun H locs ls hP hS hl => lv_idiv C.1 C.2.1 d hne (kk H locs ls hP hS hl)
theorem v_irem (C : gC p s m args meth c cc own n ret A D t ad) {x y : Int32} (d : decode cc pc = .ok (.irem, 1)) (hne : ¬ y = 0) (kk : V p l e R s m args below meth c A D t ad cells slots n Q G (pc + 1) Lv (.int (x - x / y * y) :: st)) : V p l e R s m args below meth c A D t ad cells slots n Q G pc Lv (.int y :: .int x :: st) :=
  fun H locs ls hP hS hl => lv_irem C.1 C.2.1 d hne (kk H locs ls hP hS hl)
theorem v_ineg (C : gC p s m args meth c cc own n ret A D t ad) {x : Int32} (d : decode cc pc = .ok (.ineg, 1)) (kk : V p l e R s m args below meth c A D t ad cells slots n Q G (pc + 1) Lv (.int (-x) :: st)) : V p l e R s m args below meth c A D t ad cells slots n Q G pc Lv (.int x :: st) :=
  fun H locs ls hP hS hl => lv_ineg C.1 C.2.1 d (kk H locs ls hP hS hl)
theorem v_ishl (C : gC p s m args meth c cc own n ret A D t ad) {x y : Int32} (d : decode cc pc = .ok (.ishl, 1)) (kk : V p l e R s m args below meth c A D t ad cells slots n Q G (pc + 1) Lv (.int (x <<< (y &&& 31)) :: st)) : V p l e R s m args below meth c A D t ad cells slots n Q G pc Lv (.int y :: .int x :: st) :=
  fun H locs ls hP hS hl => lv_ishl C.1 C.2.1 d (kk H locs ls hP hS hl)
theorem v_ishr (C : gC p s m args meth c cc own n ret A D t ad) {x y : Int32} (d : decode cc pc = .ok (.ishr, 1)) (kk : V p l e R s m args below meth c A D t ad cells slots n Q G (pc + 1) Lv (.int (x >>> (y &&& 31)) :: st)) : V p l e R s m args below meth c A D t ad cells slots n Q G pc Lv (.int y :: .int x :: st) :=
  fun H locs ls hP hS hl => lv_ishr C.1 C.2.1 d (kk H locs ls hP hS hl)
theorem v_iand (C : gC p s m args meth c cc own n ret A D t ad) {x y : Int32} (d : decode cc pc = .ok (.iand, 1)) (kk : V p l e R s m args below meth c A D t ad cells slots n Q G (pc + 1) Lv (.int (x &&& y) :: st)) : V p l e R s m args below meth c A D t ad cells slots n Q G pc Lv (.int y :: .int x :: st) :=
  fun H locs ls hP hS hl => lv_iand C.1 C.2.1 d (kk H locs ls hP hS hl)
theorem v_ior (C : gC p s m args meth c cc own n ret A D t ad) {x y : Int32} (d : decode cc pc = .ok (.ior, 1)) (kk : V p l e R s m args below meth c A D t ad cells slots n Q G (pc + 1) Lv (.int (x ||| y) :: st)) : V p l e R s m args below meth c A D t ad cells slots n Q G pc Lv (.int y :: .int x :: st) :=
  fun H locs ls hP hS hl => lv_ior C.1 C.2.1 d (kk H locs ls hP hS hl)
theorem v_ixor (C : gC p s m args meth c cc own n ret A D t ad) {x y : Int32} (d : decode cc pc = .ok (.ixor, 1)) (kk : V p l e R s m args below meth c A D t ad cells slots n Q G (pc + 1) Lv (.int (x ^^^ y) :: st)) : V p l e R s m args below meth c A D t ad cells slots n Q G pc Lv (.int y :: .int x :: st) :=
  fun H locs ls hP hS hl => lv_ixor C.1 C.2.1 d (kk H locs ls hP hS hl)
theorem v_i2c (C : gC p s m args meth c cc own n ret A D t ad) {x : Int32} (d : decode cc pc = .ok (.i2c, 1)) (kk : V p l e R s m args below meth c A D t ad cells slots n Q G (pc + 1) Lv (.int (x.toUInt32 % 65536).toInt32 :: st)) : V p l e R s m args below meth c A D t ad cells slots n Q G pc Lv (.int x :: st) :=
  fun H locs ls hP hS hl => lv_i2c C.1 C.2.1 d rfl (kk H locs ls hP hS hl)
theorem v_dup (C : gC p s m args meth c cc own n ret A D t ad) {x : Value} (d : decode cc pc = .ok (.dup, 1)) (hx : x.category = 1) (kk : V p l e R s m args below meth c A D t ad cells slots n Q G (pc + 1) Lv (x :: x :: st)) : V p l e R s m args below meth c A D t ad cells slots n Q G pc Lv (x :: st) :=
  fun H locs ls hP hS hl => lv_dup C.1 C.2.1 d hx (kk H locs ls hP hS hl)
theorem v_pop (C : gC p s m args meth c cc own n ret A D t ad) {x : Value} (d : decode cc pc = .ok (.pop, 1)) (hx : x.category = 1) (kk : V p l e R s m args below meth c A D t ad cells slots n Q G (pc + 1) Lv st) : V p l e R s m args below meth c A D t ad cells slots n Q G pc Lv (x :: st) :=
  fun H locs ls hP hS hl => lv_pop C.1 C.2.1 d hx (kk H locs ls hP hS hl)
theorem v_dup2 (C : gC p s m args meth c cc own n ret A D t ad) {x y : Value} (d : decode cc pc = .ok (.dup2, 1)) (hx : x.category = 1) (hy : y.category = 1) (kk : V p l e R s m args below meth c A D t ad cells slots n Q G (pc + 1) Lv (x :: y :: x :: y :: st)) : V p l e R s m args below meth c A D t ad cells slots n Q G pc Lv (x :: y :: st) :=
  fun H locs ls hP hS hl => lv_dup2_11 C.1 C.2.1 d hx hy (kk H locs ls hP hS hl)
theorem v_goto (C : gC p s m args meth c cc own n ret A D t ad) {off : Int} (tgt : Nat) (d : decode cc pc = .ok (.goto off, 3)) (ht : (pc : Int) + off = (tgt : Int)) (kk : V p l e R s m args below meth c A D t ad cells slots n Q G tgt Lv st) : V p l e R s m args below meth c A D t ad cells slots n Q G pc Lv st :=
  fun H locs ls hP hS hl => lv_goto C.1 C.2.1 d ht (kk H locs ls hP hS hl)
theorem v_tabOut (C : gC p s m args meth c cc own n ret A D t ad) {dflt lo hi : Int} {offs : Array Int} {len : Nat} {x : Int32} (tgt : Nat) (d : decode cc pc = .ok (.tableswitch dflt lo hi offs, len)) (h : x.toInt < lo ∨ hi < x.toInt) (ht : (pc : Int) + dflt = (tgt : Int)) (kk : V p l e R s m args below meth c A D t ad cells slots n Q G tgt Lv st) : V p l e R s m args below meth c A D t ad cells slots n Q G pc Lv (.int x :: st) :=
  fun H locs ls hP hS hl => lv_tableOut C.1 C.2.1 d h ht (kk H locs ls hP hS hl)
theorem v_tabIn (C : gC p s m args meth c cc own n ret A D t ad) {dflt lo hi : Int} {offs : Array Int} {len : Nat} {x : Int32} {off : Int} (tgt : Nat) (d : decode cc pc = .ok (.tableswitch dflt lo hi offs, len)) (h1 : ¬ x.toInt < lo) (h2 : ¬ hi < x.toInt) (ho : offs[(x.toInt - lo).toNat]? = some off) (ht : (pc : Int) + off = (tgt : Int)) (kk : V p l e R s m args below meth c A D t ad cells slots n Q G tgt Lv st) : V p l e R s m args below meth c A D t ad cells slots n Q G pc Lv (.int x :: st) :=
  fun H locs ls hP hS hl => lv_tableIn C.1 C.2.1 d h1 h2 ho ht (kk H locs ls hP hS hl)
theorem v_if_eq (C : gC p s m args meth c cc own n ret A D t ad) {x : Int32} {off : Int} (tgt : Nat) (d : decode cc pc = .ok (.ifCond .eq off, 3)) (ht : (pc : Int) + off = (tgt : Int)) (kt : x = 0 → V p l e R s m args below meth c A D t ad cells slots n Q G tgt Lv st) (kf : ¬ x = 0 → V p l e R s m args below meth c A D t ad cells slots n Q G (pc + 3) Lv st) : V p l e R s m args below meth c A D t ad cells slots n Q G pc Lv (.int x :: st) :=
  fun H locs ls hP hS hl => lv_if_eq C.1 C.2.1 d ht (fun h => kt h H locs ls hP hS hl) (fun h => kf h H locs ls hP hS hl)
theorem v_ic_eq (C : gC p s m args meth c cc own n ret A D t ad) {x y : Int32} {off : Int} (tgt : Nat) (d : decode cc pc = .ok (.if_icmp .eq off, 3)) (ht : (pc : Int) + off = (tgt : Int)) (kt : x = y → V p l e R s m args below meth c A D t ad cells slots n Q G tgt Lv st) (kf : ¬ x = y → V p l e R s m args below meth c A D t ad cells slots n Q G (pc + 3) Lv st) : V p l e R s m args below meth c A D t ad cells slots n Q G pc Lv (.int y :: .int x :: st) :=
  fun H locs ls hP hS hl => lv_icmp_eq C.1 C.2.1 d ht (fun h => kt h H locs ls hP hS hl) (fun h => kf h H locs ls hP hS hl)
theorem v_if_ne (C : gC p s m args meth c cc own n ret A D t ad) {x : Int32} {off : Int} (tgt : Nat) (d : decode cc pc = .ok (.ifCond .ne off, 3)) (ht : (pc : Int) + off = (tgt : Int)) (kt : ¬ x = 0 → V p l e R s m args below meth c A D t ad cells slots n Q G tgt Lv st) (kf : x = 0 → V p l e R s m args below meth c A D t ad cells slots n Q G (pc + 3) Lv st) : V p l e R s m args below meth c A D t ad cells slots n Q G pc Lv (.int x :: st) :=
  fun H locs ls hP hS hl => lv_if_ne C.1 C.2.1 d ht (fun h => kt h H locs ls hP hS hl) (fun h => kf h H locs ls hP hS hl)
theorem v_ic_ne (C : gC p s m args meth c cc own n ret A D t ad) {x y : Int32} {off : Int} (tgt : Nat) (d : decode cc pc = .ok (.if_icmp .ne off, 3)) (ht : (pc : Int) + off = (tgt : Int)) (kt : ¬ x = y → V p l e R s m args below meth c A D t ad cells slots n Q G tgt Lv st) (kf : x = y → V p l e R s m args below meth c A D t ad cells slots n Q G (pc + 3) Lv st) : V p l e R s m args below meth c A D t ad cells slots n Q G pc Lv (.int y :: .int x :: st) :=
  fun H locs ls hP hS hl => lv_icmp_ne C.1 C.2.1 d ht (fun h => kt h H locs ls hP hS hl) (fun h => kf h H locs ls hP hS hl)
theorem v_if_lt (C : gC p s m args meth c cc own n ret A D t ad) {x : Int32} {off : Int} (tgt : Nat) (d : decode cc pc = .ok (.ifCond .lt off, 3)) (ht : (pc : Int) + off = (tgt : Int)) (kt : x < 0 → V p l e R s m args below meth c A D t ad cells slots n Q G tgt Lv st) (kf : ¬ x < 0 → V p l e R s m args below meth c A D t ad cells slots n Q G (pc + 3) Lv st) : V p l e R s m args below meth c A D t ad cells slots n Q G pc Lv (.int x :: st) :=
  fun H locs ls hP hS hl => lv_if_lt C.1 C.2.1 d ht (fun h => kt h H locs ls hP hS hl) (fun h => kf h H locs ls hP hS hl)
theorem v_ic_lt (C : gC p s m args meth c cc own n ret A D t ad) {x y : Int32} {off : Int} (tgt : Nat) (d : decode cc pc = .ok (.if_icmp .lt off, 3)) (ht : (pc : Int) + off = (tgt : Int)) (kt : x < y → V p l e R s m args below meth c A D t ad cells slots n Q G tgt Lv st) (kf : ¬ x < y → V p l e R s m args below meth c A D t ad cells slots n Q G (pc + 3) Lv st) : V p l e R s m args below meth c A D t ad cells slots n Q G pc Lv (.int y :: .int x :: st) :=
  fun H locs ls hP hS hl => lv_icmp_lt C.1 C.2.1 d ht (fun h => kt h H locs ls hP hS hl) (fun h => kf h H locs ls hP hS hl)
theorem v_if_ge (C : gC p s m args meth c cc own n ret A D t ad) {x : Int32} {off : Int} (tgt : Nat) (d : decode cc pc = .ok (.ifCond .ge off, 3)) (ht : (pc : Int) + off = (tgt : Int)) (kt : 0 ≤ x → V p l e R s m args below meth c A D t ad cells slots n Q G tgt Lv st) (kf : ¬ 0 ≤ x → V p l e R s m args below meth c A D t ad cells slots n Q G (pc + 3) Lv st) : V p l e R s m args below meth c A D t ad cells slots n Q G pc Lv (.int x :: st) :=
  fun H locs ls hP hS hl => lv_if_ge C.1 C.2.1 d ht (fun h => kt h H locs ls hP hS hl) (fun h => kf h H locs ls hP hS hl)
theorem v_ic_ge (C : gC p s m args meth c cc own n ret A D t ad) {x y : Int32} {off : Int} (tgt : Nat) (d : decode cc pc = .ok (.if_icmp .ge off, 3)) (ht : (pc : Int) + off = (tgt : Int)) (kt : y ≤ x → V p l e R s m args below meth c A D t ad cells slots n Q G tgt Lv st) (kf : ¬ y ≤ x → V p l e R s m args below meth c A D t ad cells slots n Q G (pc + 3) Lv st) : V p l e R s m args below meth c A D t ad cells slots n Q G pc Lv (.int y :: .int x :: st) :=
  fun H locs ls hP hS hl => lv_icmp_ge C.1 C.2.1 d ht (fun h => kt h H locs ls hP hS hl) (fun h => kf h H locs ls hP hS hl)
theorem v_if_gt (C : gC p s m args meth c cc own n ret A D t ad) {x : Int32} {off : Int} (tgt : Nat) (d : decode cc pc = .ok (.ifCond .gt off, 3)) (ht : (pc : Int) + off = (tgt : Int)) (kt : 0 < x → V p l e R s m args below meth c A D t ad cells slots n Q G tgt Lv st) (kf : ¬ 0 < x → V p l e R s m args below meth c A D t ad cells slots n Q G (pc + 3) Lv st) : V p l e R s m args below meth c A D t ad cells slots n Q G pc Lv (.int x :: st) :=
  fun H locs ls hP hS hl => lv_if_gt C.1 C.2.1 d ht (fun h => kt h H locs ls hP hS hl) (fun h => kf h H locs ls hP hS hl)
theorem v_ic_gt (C : gC p s m args meth c cc own n ret A D t ad) {x y : Int32} {off : Int} (tgt : Nat) (d : decode cc pc = .ok (.if_icmp .gt off, 3)) (ht : (pc : Int) + off = (tgt : Int)) (kt : y < x → V p l e R s m args below meth c A D t ad cells slots n Q G tgt Lv st) (kf : ¬ y < x → V p l e R s m args below meth c A D t ad cells slots n Q G (pc + 3) Lv st) : V p l e R s m args below meth c A D t ad cells slots n Q G pc Lv (.int y :: .int x :: st) :=
  fun H locs ls hP hS hl => lv_icmp_gt C.1 C.2.1 d ht (fun h => kt h H locs ls hP hS hl) (fun h => kf h H locs ls hP hS hl)
theorem v_if_le (C : gC p s m args meth c cc own n ret A D t ad) {x : Int32} {off : Int} (tgt : Nat) (d : decode cc pc = .ok (.ifCond .le off, 3)) (ht : (pc : Int) + off = (tgt : Int)) (kt : x ≤ 0 → V p l e R s m args below meth c A D t ad cells slots n Q G tgt Lv st) (kf : ¬ x ≤ 0 → V p l e R s m args below meth c A D t ad cells slots n Q G (pc + 3) Lv st) : V p l e R s m args below meth c A D t ad cells slots n Q G pc Lv (.int x :: st) :=
  fun H locs ls hP hS hl => lv_if_le C.1 C.2.1 d ht (fun h => kt h H locs ls hP hS hl) (fun h => kf h H locs ls hP hS hl)
theorem v_ic_le (C : gC p s m args meth c cc own n ret A D t ad) {x y : Int32} {off : Int} (tgt : Nat) (d : decode cc pc = .ok (.if_icmp .le off, 3)) (ht : (pc : Int) + off = (tgt : Int)) (kt : x ≤ y → V p l e R s m args below meth c A D t ad cells slots n Q G tgt Lv st) (kf : ¬ x ≤ y → V p l e R s m args below meth c A D t ad cells slots n Q G (pc + 3) Lv st) : V p l e R s m args below meth c A D t ad cells slots n Q G pc Lv (.int y :: .int x :: st) :=
  fun H locs ls hP hS hl => lv_icmp_le C.1 C.2.1 d ht (fun h => kt h H locs ls hP hS hl) (fun h => kf h H locs ls hP hS hl)
theorem v_wk (kk : V p l e R s m args below meth c A D t ad cells slots n Q G pc Lv st) {Lv' : List (Option Value)} (hs : ∀ (i : Nat) (v : Value), Lv[i]? = some (some v) → Lv'[i]? = some (some v)) : V p l e R s m args below meth c A D t ad cells slots n Q G pc Lv' st :=
  fun H locs ls hP hS hl => kk H locs ls hP hS (hl.mono hs)
end V1
end
section
theorem gc_x {p : Program} {s : State} {m : MethodId} {args : Array Value} {meth : Method} {c : Code} {cc : ByteArray} {own : String} {n : Nat} {ret : Option FieldType} {A : Nat → Prop} {D : va_G} {t : gT} {ad : Nat → Nat} (C : gC p s m args meth c cc own n ret A D t ad) : (∀ w ∈ gtbl, w.before args s = true) ∧ va_K D vwCl (tys t) s ∧ (∀ k, k < 80 → A (ad k)) ∧ gS ad A s s.heap ∧ gN s ∧ meth.sig.returnType = ret ∧ meth.locks = false := ⟨C.2.2.2.2.1, C.2.2.2.2.2.1, C.2.2.2.2.2.2.2.1, C.2.2.2.2.2.2.2.2.1, C.2.2.2.2.2.2.2.2.2.1, C.2.2.2.2.2.2.2.2.2.2.1, C.2.2.2.2.2.2.2.2.2.2.2⟩
def gP (D : va_G) (t : gT) (ad : Nat → Nat) (G : gG) (U : State) : Prop := va_P D vwCl (gws t ad G) U.heap ∧ va_K D vwCl (tys t) U ∧ gS ad (isW ad) U U.heap ∧ gN U
def gI (ad : Nat → Nat) : Prop := ∀ i j, i < 80 → j < 80 → ad i = ad j → i = j
theorem gP_blind {D : va_G} {t : gT} {ad : Nat → Nat} {G : gG} {av : List Value} : FrameBlind (va_Pc av (gP D t ad G)) := by
  intro a U g mk h
  obtain ⟨h0, h1, h2, h3, h4⟩ := h
  exact ⟨h0, h1, va_K.moved (u := U) (U := U.calling g mk a) (Vm.Alike.refl U.vm) h2, gS.to h3 (U := U.calling g mk a) (Vm.Alike.refl U.vm) (fun _ _ _ => rfl) (fun _ h => h), gN.same (s := U) (U := U.calling g mk a) rfl h4⟩
abbrev wM (y : MethodName) (b : ByteArray) (n : Nat) (ret : Option FieldType) : List Cond := .code y b n ret :: gtbl
abbrev rM (f loc : Nat) : Room := { frames := f, cells := 0, slots := 0, locals := loc }
def Mi (l : Launch) (D : va_G) (t : gT) (ad : Nat → Nat) (y : MethodName) (b : ByteArray) (n : Nat) (ret : Option FieldType) (rm : Room) (av : List Value) (G : gG) (r : Int32) (G' : gG) : Prop :=
  Met l y (wM y b n ret) rm (va_Pc av (gP D t ad G)) (va_Qi (fun (r' : Int32) (_ : Unit) => r' = r) (fun _ U => va_P D vwCl (gws t ad G') U.heap) (isW ad)) 0 0 (isW ad)
def Mv (l : Launch) (D : va_G) (t : gT) (ad : Nat → Nat) (y : MethodName) (b : ByteArray) (n : Nat) (rm : Room) (av : List Value) (G : gG) (G' : gG) : Prop :=
  Met l y (wM y b n none) rm (va_Pc av (gP D t ad G)) (va_Qv (fun (_ : Unit) => True) (fun _ U => va_P D vwCl (gws t ad G') U.heap) (isW ad)) 0 0 (isW ad)
abbrev Qi (below : List Frame) (D : va_G) (t : gT) (ad : Nat → Nat) (args : Array Value) (s : State) (r : Int32) (G' : gG) : State → Prop := MQ below (va_Qi (fun (r' : Int32) (_ : Unit) => r' = r) (fun _ U => va_P D vwCl (gws t ad G') U.heap) (isW ad)) args s 0 0 (isW ad)
abbrev Qv (below : List Frame) (D : va_G) (t : gT) (ad : Nat → Nat) (args : Array Value) (s : State) (G' : gG) : State → Prop := MQ below (va_Qv (fun (_ : Unit) => True) (fun _ U => va_P D vwCl (gws t ad G') U.heap) (isW ad)) args s 0 0 (isW ad)
/-- a method's entry -/
theorem m_in {l : Launch} {D : va_G} {t : gT} {ad : Nat → Nat} {y : MethodName} {b : ByteArray} {n : Nat} {ret : Option FieldType} {rm : Room} {av : List Value} {G : gG} {Qc : Array Value → State → Outcome → State → Prop} (hI : gI ad) (hy : plainName y.cls = true) (hrc : rm.cells = 0 ∧ rm.slots = 0) (hlen : (lg_sl av).length ≤ n) (hcat : ∀ q ∈ lv_args 0 av, q.2.category = 1) (Lv : List (Option Value)) (hLv : ∀ (i : Nat) (v : Value), Lv[i]? = some (some v) → (i, v) ∈ lv_args 0 av)
    (body : ∀ (p : Program) (e : Env) (s : State) (m : MethodId) (args : Array Value) (below : List Frame) (meth : Method) (c : Code), gC p s m args meth c b y.cls n ret (isW ad) D t ad → V p l e rm s m args below meth c (isW ad) D t ad 0 0 n (MQ below Qc args s 0 0 (isW ad)) G 0 Lv []) : Met l y (wM y b n ret) rm (va_Pc av (gP D t ad G)) Qc 0 0 (isW ad) := by
  refine Met.ofW (cc := b) (maxL := n) (ret := ret) hy rfl ?_
  intro p e s m args below meth c s₁ B hml hv
  obtain ⟨rfl, hP, hK, hS, hN⟩ := hv
  have hts : ∀ w ∈ wM y b n ret, w.before av.toArray s = true := atoms_spec (ws := wM y b n ret) B.pre
  have hl := lv_entry av (n := n) hlen
  rw [lg_entry_eq]
  exact body p e s m _ below meth c ⟨B.exec, B.bytes, hml, findClass_of_methodNamed B.named, fun w hw => hts w (List.mem_cons_of_mem _ hw), hK, hI, fun k hk => ⟨k, hk, rfl⟩, hS, hN, B.returns, B.notSynchronized⟩ s.heap [] _ hP va_S.rf ⟨hl.1, hl.2.1, fun i v hv => ⟨hl.2.2 _ (hLv i v hv), hcat _ (hLv i v hv)⟩⟩
section V2
variable {p : Program} {l : Launch} {e : Env} {R : Room} {s : State} {m : MethodId} {args : Array Value} {below : List Frame} {meth : Method} {c : Code} {A : Nat → Prop} {D : va_G} {t : gT} {ad : Nat → Nat} {cells slots n : Nat} {Q : State → Prop} {G : gG} {pc : Nat} {Lv : List (Option Value)} {st : List Value} {cc : ByteArray} {own : String} {ret : Option FieldType}
theorem v_get (C : gC p s m args meth c cc own n ret A D t ad) {ci N k index : Nat} {Cn ref : String} {T : u_T} {fs : List Value} {v : Value} (hk : k < 80) (hce : ce t ad k (G k) = .inr (ci, fs)) (hc : vwCl[ci]? = some (Cn, T, N)) (hin : ∀ w ∈ u_ws Cn T N, w ∈ gtbl) (f : Nat) (hf : f < N) (hlink : Cond.fieldLink own index ref (T f).2.1 (T f).2.2.1 ∈ gtbl) (href : (T f).1 = ref) (hv : fs[f]? = some v) (d : decode cc pc = .ok (.getfield index, 3)) (kk : V p l e R s m args below meth c A D t ad cells slots n Q G (pc + 3) Lv (v :: st)) : V p l e R s m args below meth c A D t ad cells slots n Q G pc Lv (.ref (ad k) :: st) :=
  fun H locs ls hP hS hl => va_get C.1 C.2.1 (gc_x C).1 hin C.2.2.2.1 (gc_x C).2.1 hP k (gws_ate hk hce) hc f hf ((gc_x C).1 _ hlink) (fun _ h => by rw [← href]; exact h) hv d (kk H locs ls hP hS hl)
theorem v_put (C : gC p s m args meth c cc own n ret A D t ad) {ci N k index : Nat} {Cn ref : String} {T : u_T} {fs : List Value} {x : Int32} {ty : FieldType} (hk : k < 80) (hce : ce t ad k (G k) = .inr (ci, fs)) (hc : vwCl[ci]? = some (Cn, T, N)) (hin : ∀ w ∈ u_ws Cn T N, w ∈ gtbl) (ty0 : Nat → FieldType) (hty : ∀ k, k < N → parseFieldDescriptor (T k).2.2.1 = some (ty0 k)) (hnm : ∀ a, a < N → ∀ b, b < N → a ≠ b → (T a).2.1 ≠ (T b).2.1) (f : Nat) (hf : f < N) (hlink : Cond.fieldLink own index ref (T f).2.1 (T f).2.2.1 ∈ gtbl) (href : (T f).1 = ref) (hfin : (T f).2.2.2 = false) (hd : parseFieldDescriptor (T f).2.2.1 = some ty) (hn : narrow ty (.int x) = .int x) (hfit : fits ty (.int x) = true) (hl0 : f < fs.length) (hce' : ce t ad k (gu G k f x k) = .inr (ci, fs.set f (.int x))) (d : decode cc pc = .ok (.putfield index, 3)) (kk : V p l e R s m args below meth c A D t ad cells slots n Q (gu G k f x) (pc + 3) Lv st) : V p l e R s m args below meth c A D t ad cells slots n Q G pc Lv (.int x :: .ref (ad k) :: st) := by
  intro H locs ls hP hS hl
  refine va_put C.1 C.2.1 (gc_x C).1 hin ty0 hty hnm C.2.2.2.1 (gc_x C).2.1 hP (gc_D C G) hS k (gws_ate hk hce) hc f hf ((gc_x C).1 _ hlink) (fun _ h => by rw [← href]; exact h) hfin hd hn hfit hl0 d (fun H1 locs1 hP1 _ hS1 => ?_)
  rw [gws_set (G := G) (G' := gu G k f x) hk hce' (fun j hj => gu_ne hj)] at hP1
  exact kk H1 locs1 ls hP1 hS1 hl
theorem v_ld (C : gC p s m args meth c cc own n ret A D t ad) {k N : Nat} {i : Int32} (hk : k < 80) (hce : ce t ad k (G k) = .inl (t.1, N, .inl (G k))) (hin : vp_in i N) (d : decode cc pc = .ok (.iaload, 1)) (kk : V p l e R s m args below meth c A D t ad cells slots n Q G (pc + 1) Lv (.int (G k i.toNatClampNeg) :: st)) : V p l e R s m args below meth c A D t ad cells slots n Q G pc Lv (.int i :: .ref (ad k) :: st) :=
  fun H locs ls hP hS hl => va_iald C.1 C.2.1 (gc_x C).2.1 hP k 0 (gws_ate hk hce) rfl hin d (kk H locs ls hP hS hl)
theorem v_cld (C : gC p s m args meth c cc own n ret A D t ad) {k N : Nat} {i : Int32} (hk : k < 80) (hce : ce t ad k (G k) = .inl (t.2.1, N, .inl (G k))) (hin : vp_in i N) (d : decode cc pc = .ok (.caload, 1)) (kk : V p l e R s m args below meth c A D t ad cells slots n Q G (pc + 1) Lv (.int (G k i.toNatClampNeg) :: st)) : V p l e R s m args below meth c A D t ad cells slots n Q G pc Lv (.int i :: .ref (ad k) :: st) :=
  fun H locs ls hP hS hl => va_cald C.1 C.2.1 (gc_x C).2.1 hP k 1 (gws_ate hk hce) rfl hin d (kk H locs ls hP hS hl)
theorem v_st (C : gC p s m args meth c cc own n ret A D t ad) {k N : Nat} {i x : Int32} (hk : k < 80) (hce : ∀ g, ce t ad k g = .inl (t.1, N, .inl g)) (hin : vp_in i N) (d : decode cc pc = .ok (.iastore, 1)) (kk : V p l e R s m args below meth c A D t ad cells slots n Q (gu G k i.toNatClampNeg x) (pc + 1) Lv st) : V p l e R s m args below meth c A D t ad cells slots n Q G pc Lv (.int x :: .int i :: .ref (ad k) :: st) := by
  intro H locs ls hP hS hl
  refine va_iast C.1 C.2.1 (gc_x C).2.1 hP (gc_D C G) hS k 0 (gws_ate hk (hce _)) rfl hin d (fun H1 locs1 hP1 _ hS1 => ?_)
  rw [gws_set (G := G) (G' := gu G k i.toNatClampNeg x) hk (by rw [hce, gu_eq]) (fun j hj => gu_ne hj)] at hP1
  exact kk H1 locs1 ls hP1 hS1 hl
theorem v_cst (C : gC p s m args meth c cc own n ret A D t ad) {k N : Nat} {i x : Int32} (hk : k < 80) (hce : ∀ g, ce t ad k g = .inl (t.2.1, N, .inl g)) (hin : vp_in i N) (d : decode cc pc = .ok (.castore, 1)) (kk : V p l e R s m args below meth c A D t ad cells slots n Q (gu G k i.toNatClampNeg (vp_nar .char x)) (pc + 1) Lv st) : V p l e R s m args below meth c A D t ad cells slots n Q G pc Lv (.int x :: .int i :: .ref (ad k) :: st) := by
  intro H locs ls hP hS hl
  refine va_cast C.1 C.2.1 (gc_x C).2.1 hP (gc_D C G) hS k 1 (gws_ate hk (hce _)) rfl hin d (fun H1 locs1 hP1 _ hS1 => ?_)
  rw [gws_set (G := G) (G' := gu G k i.toNatClampNeg (vp_nar .char x)) hk (by rw [hce, gu_eq]) (fun j hj => gu_ne hj)] at hP1
  exact kk H1 locs1 ls hP1 hS1 hl
theorem v_ald (C : gC p s m args meth c cc own n ret A D t ad) {i : Int32} (hin : vp_in i 4) (d : decode cc pc = .ok (.aaload, 1)) (kk : V p l e R s m args below meth c A D t ad cells slots n Q G (pc + 1) Lv (.ref (ad (G 64 i.toNatClampNeg).toNatClampNeg) :: st)) : V p l e R s m args below meth c A D t ad cells slots n Q G pc Lv (.int i :: .ref (ad 64) :: st) :=
  fun H locs ls hP hS hl => va_aldq C.1 C.2.1 (gc_x C).2.1 hP 64 2 (gws_ate (e := .inl (t.2.2, 4, .inr (.inr (.inr (.inr (fun i => some (ad (G 64 i).toNatClampNeg))))))) (by decide) rfl) rfl hin d (kk H locs ls hP hS hl)
theorem v_ast (C : gC p s m args meth c cc own n ret A D t ad) {i : Int32} {k : Nat} (hk : isM k) (hin : vp_in i 4) (d : decode cc pc = .ok (.aastore, 1)) (kk : V p l e R s m args below meth c A D t ad cells slots n Q (gu G 64 i.toNatClampNeg (Int32.ofNat k)) (pc + 1) Lv st) : V p l e R s m args below meth c A D t ad cells slots n Q G pc Lv (.ref (ad k) :: .int i :: .ref (ad 64) :: st) := by
  intro H locs ls hP hS hl
  have hk9 : k < 63 := hk.1
  refine va_astq C.1 C.2.1 (gc_x C).2.1 hP (gc_D C G) hS 64 2 k 1 (r := (RX1, TX1, 15)) (gws_ate (e := .inl (t.2.2, 4, .inr (.inr (.inr (.inr (fun i => some (ad (G 64 i).toNatClampNeg))))))) (by decide) rfl) rfl (gws_ate (by omega) (ce_m hk)) rfl hin d (fun H1 locs1 hP1 _ hS1 => ?_)
  rw [gws_set (G := G) (G' := gu G 64 i.toNatClampNeg (Int32.ofNat k)) (by decide) ?_ (fun j hj => gu_ne hj)] at hP1
  · exact kk H1 locs1 ls hP1 hS1 hl
  · have hT : (Int32.ofNat k).toNatClampNeg = k := Int32.toNatClampNeg_ofNat_of_lt (by omega)
    have hF : (fun j => some (ad (gu G 64 i.toNatClampNeg (Int32.ofNat k) 64 j).toNatClampNeg)) = va_up (fun j => some (ad (G 64 j).toNatClampNeg)) i.toNatClampNeg (some (ad k)) := by
      funext j
      by_cases hj : j = i.toNatClampNeg
      · simp [gu, va_up, hj, hT]
      · simp [gu, va_up, hj]
    show (Sum.inl (t.2.2, 4, .inr (.inr (.inr (.inr (fun j => some (ad (gu G 64 i.toNatClampNeg (Int32.ofNat k) 64 j).toNatClampNeg)))))) : va_E) = _
    rw [hF]
theorem v_iret (C : gC p s m args meth c cc own n (some .int) (isW ad) D t ad) {r : Int32} (d : decode cc pc = .ok (.ireturn, 1)) : V p l e R s m args below meth c (isW ad) D t ad 0 0 n (Qi below D t ad args s r G) G pc Lv [.int r] :=
  fun H locs ls hP hS hl => W.iret C.1 C.2.1 (gc_x C).2.2.2.2.2.1 (fun t ht hW => ⟨⟨r, (), rfl, rfl, by show va_P _ _ _ _; rw [ht]; exact hP⟩, hS.F ht⟩) hS.2.2 d (gc_x C).2.2.2.2.2.2
def nb (r : Int32) : Prop := r = 0 ∨ r = 1
theorem nb_n {r : Int32} (h : nb r) : narrow .boolean (.int r) = .int r := by rcases h with rfl | rfl <;> rfl
theorem v_zret (C : gC p s m args meth c cc own n (some .boolean) (isW ad) D t ad) {r : Int32} (hr : nb r) (d : decode cc pc = .ok (.ireturn, 1)) : V p l e R s m args below meth c (isW ad) D t ad 0 0 n (Qi below D t ad args s r G) G pc Lv [.int r] :=
  fun H locs ls hP hS hl => W.zret C.1 C.2.1 (gc_x C).2.2.2.2.2.1 (nb_n hr) (fun t ht hW => ⟨⟨r, (), rfl, rfl, by show va_P _ _ _ _; rw [ht]; exact hP⟩, hS.F ht⟩) hS.2.2 d (gc_x C).2.2.2.2.2.2
theorem v_vret (C : gC p s m args meth c cc own n none (isW ad) D t ad) (d : decode cc pc = .ok (.return_, 1)) : V p l e R s m args below meth c (isW ad) D t ad 0 0 n (Qv below D t ad args s G) G pc Lv [] :=
  fun H locs ls hP hS hl => W.vret C.1 C.2.1 (gc_x C).2.2.2.2.2.1 (fun t ht hW => ⟨⟨(), rfl, trivial, by show va_P _ _ _ _; rw [ht]; exact hP⟩, hS.F ht⟩) hS.2.2 d (gc_x C).2.2.2.2.2.2
-- calls
variable {y : MethodName} {b : ByteArray} {mL nP index : Nat} {ry : Option FieldType} {rm : Room} {As : List Value} {r : Int32} {G' : gG}
theorem v_pre (C : gC p s m args meth c cc own n ret A D t ad) {H : Heap} {locs : List Loc} (hP : va_P D vwCl (gws t ad G) H) (hS : va_S A s.heap H locs) {av : List Value} : ∀ U : State, U.heap = H → s.WarmedH U.vm → va_Pc av (gP D t ad G) av.toArray U :=
  fun U hU hW => ⟨rfl, by rw [hU]; exact hP, va_K.moved hW.alike (gc_x C).2.1, (gc_x C).2.2.2.1.to hW.alike (fun a ha hna => by rw [hU]; exact hS.2.1 a ha hna) (fun q ⟨k, hk, he⟩ => he ▸ (gc_x C).2.2.1 k hk), (gc_x C).2.2.2.2.1.warm hW⟩
theorem v_AW (C : gC p s m args meth c cc own n ret A D t ad) : ∀ q, isW ad q → A q := fun q ⟨k, hk, he⟩ => he ▸ (gc_x C).2.2.1 k hk
abbrev yOk (y : MethodName) (nP : Nat) : Prop := y.cls ≠ "java/lang/invoke/MethodHandle" ∧ y.cls ≠ "java/lang/invoke/VarHandle" ∧ (parseMethodDescriptor y.desc).map (fun d => d.parameters.length) = some nP
theorem v_callI (C : gC p s m args meth c cc own n ret A D t ad) {k ci : Nat} {fs : List Value} {rest : List Value} {q : vw_C} (hk : k < 80) (hce : ce t ad k (G k) = .inr (ci, fs)) (hc : vwCl[ci]? = some q)
    (hM : Mi l D t ad y b mL ry rm (.ref (ad k) :: As) G r G') (hcode : Cond.code y b mL ry ∈ gtbl) (hlink : Cond.methodLink own index y ∈ gtbl) (hinst : Cond.instanceMethod y ∈ gtbl) (hsel : Cond.selects q.1 y y ∈ gtbl) (hini : Cond.initialized y.cls ∈ gtbl) (hd : yOk y nP) (hR : rm.frames + 1 ≤ R.frames ∧ 8 + (mL + 11) + rm.locals ≤ R.locals ∧ rm.cells = 0 ∧ rm.slots = 0 ∧ cells ≤ R.cells ∧ slots ≤ R.slots)
    (hn : As.length = nP) (hst : st = As.reverse ++ .ref (ad k) :: rest) (hcat : (rest.map fun v => v.category).sum ≤ 8) (d : decode cc pc = .ok (.invokevirtual index, 3))
    (kk : V p l e R s m args below meth c A D t ad cells slots n Q G' (pc + 3) Lv (.int r :: rest)) : V p l e R s m args below meth c A D t ad cells slots n Q G pc Lv st := by
  intro H locs ls hP hS hl
  have hts := (gc_x C).1
  refine va_calli (va_runV (As := As) (rest := rest) ⟨C.1, C.2.1, C.2.2.1, C.2.2.2.1, hts⟩ hM ⟨callB_of nP hts (gd_c hcode) rfl hR.2.2.1 hR.2.2.2.1 (hts _ hini) (hts _ hlink) hd ⟨hR.1, hR.2.1⟩, hts _ hinst, hts _ hsel⟩ ⟨gP_blind, va_recv (gc_x C).2.1 hP hc (gws_ate hk hce), v_pre C hP hS⟩ rfl hn hl.1 hst (lv_room hcat) d ⟨hR.2.2.2.2.1, hR.2.2.2.2.2⟩) hS (fun q _ h => v_AW C q h) (v_AW C) (fun r' u t' H1 locs1 ht hvm hw hB hz1 hk1 hS1 => ?_)
  subst hw
  exact kk H1 locs1 ls (by rw [← ht]; exact hB) hS1 hl
theorem v_callV (C : gC p s m args meth c cc own n ret A D t ad) {k ci : Nat} {fs : List Value} {rest : List Value} {q : vw_C} (hk : k < 80) (hce : ce t ad k (G k) = .inr (ci, fs)) (hc : vwCl[ci]? = some q)
    (hM : Mv l D t ad y b mL rm (.ref (ad k) :: As) G G') (hcode : Cond.code y b mL none ∈ gtbl) (hlink : Cond.methodLink own index y ∈ gtbl) (hinst : Cond.instanceMethod y ∈ gtbl) (hsel : Cond.selects q.1 y y ∈ gtbl) (hini : Cond.initialized y.cls ∈ gtbl) (hd : yOk y nP) (hR : rm.frames + 1 ≤ R.frames ∧ 8 + (mL + 11) + rm.locals ≤ R.locals ∧ rm.cells = 0 ∧ rm.slots = 0 ∧ cells ≤ R.cells ∧ slots ≤ R.slots)
    (hn : As.length = nP) (hst : st = As.reverse ++ .ref (ad k) :: rest) (hcat : (rest.map fun v => v.category).sum ≤ 8) (d : decode cc pc = .ok (.invokevirtual index, 3))
    (kk : V p l e R s m args below meth c A D t ad cells slots n Q G' (pc + 3) Lv rest) : V p l e R s m args below meth c A D t ad cells slots n Q G pc Lv st := by
  intro H locs ls hP hS hl
  have hts := (gc_x C).1
  refine va_callv (va_runV (As := As) (rest := rest) ⟨C.1, C.2.1, C.2.2.1, C.2.2.2.1, hts⟩ hM ⟨callB_of nP hts (gd_c hcode) rfl hR.2.2.1 hR.2.2.2.1 (hts _ hini) (hts _ hlink) hd ⟨hR.1, hR.2.1⟩, hts _ hinst, hts _ hsel⟩ ⟨gP_blind, va_recv (gc_x C).2.1 hP hc (gws_ate hk hce), v_pre C hP hS⟩ rfl hn hl.1 hst (lv_room hcat) d ⟨hR.2.2.2.2.1, hR.2.2.2.2.2⟩) hS (fun q _ h => v_AW C q h) (v_AW C) (fun u t' H1 locs1 ht hvm hw hB hz1 hk1 hS1 => ?_)
  exact kk H1 locs1 ls (by rw [← ht]; exact hB) hS1 hl
theorem v_callS (C : gC p s m args meth c cc own n ret A D t ad) {rest : List Value}
    (hM : Mi l D t ad y b mL ry rm As G r G') (hcode : Cond.code y b mL ry ∈ gtbl) (hlink : Cond.methodLink own index y ∈ gtbl) (hsta : Cond.static y ∈ gtbl) (hini : Cond.initialized y.cls ∈ gtbl) (hd : yOk y nP) (hR : rm.frames + 1 ≤ R.frames ∧ 8 + (mL + 11) + rm.locals ≤ R.locals ∧ rm.cells = 0 ∧ rm.slots = 0 ∧ cells ≤ R.cells ∧ slots ≤ R.slots)
    (hn : As.length = nP) (hst : st = As.reverse ++ rest) (hcat : (rest.map fun v => v.category).sum ≤ 8) (d : decode cc pc = .ok (.invokestatic index, 3))
    (kk : V p l e R s m args below meth c A D t ad cells slots n Q G' (pc + 3) Lv (.int r :: rest)) : V p l e R s m args below meth c A D t ad cells slots n Q G pc Lv st := by
  intro H locs ls hP hS hl
  have hts := (gc_x C).1
  refine va_calli (va_runS (As := As) (rest := rest) ⟨C.1, C.2.1, C.2.2.1, C.2.2.2.1, hts⟩ hM ⟨callB_of nP hts (gd_c hcode) rfl hR.2.2.1 hR.2.2.2.1 (hts _ hini) (hts _ hlink) hd ⟨hR.1, hR.2.1⟩, hts _ hsta⟩ ⟨gP_blind, v_pre C hP hS⟩ rfl hn hl.1 hst (lv_room hcat) d ⟨hR.2.2.2.2.1, hR.2.2.2.2.2⟩) hS (fun q _ h => v_AW C q h) (v_AW C) (fun r' u t' H1 locs1 ht hvm hw hB hz1 hk1 hS1 => ?_)
  subst hw
  exact kk H1 locs1 ls (by rw [← ht]; exact hB) hS1 hl
theorem v_callSv (C : gC p s m args meth c cc own n ret A D t ad) {rest : List Value}
    (hM : Mv l D t ad y b mL rm As G G') (hcode : Cond.code y b mL none ∈ gtbl) (hlink : Cond.methodLink own index y ∈ gtbl) (hsta : Cond.static y ∈ gtbl) (hini : Cond.initialized y.cls ∈ gtbl) (hd : yOk y nP) (hR : rm.frames + 1 ≤ R.frames ∧ 8 + (mL + 11) + rm.locals ≤ R.locals ∧ rm.cells = 0 ∧ rm.slots = 0 ∧ cells ≤ R.cells ∧ slots ≤ R.slots)
    (hn : As.length = nP) (hst : st = As.reverse ++ rest) (hcat : (rest.map fun v => v.category).sum ≤ 8) (d : decode cc pc = .ok (.invokestatic index, 3))
    (kk : V p l e R s m args below meth c A D t ad cells slots n Q G' (pc + 3) Lv rest) : V p l e R s m args below meth c A D t ad cells slots n Q G pc Lv st := by
  intro H locs ls hP hS hl
  have hts := (gc_x C).1
  refine va_callv (va_runS (As := As) (rest := rest) ⟨C.1, C.2.1, C.2.2.1, C.2.2.2.1, hts⟩ hM ⟨callB_of nP hts (gd_c hcode) rfl hR.2.2.1 hR.2.2.2.1 (hts _ hini) (hts _ hlink) hd ⟨hR.1, hR.2.1⟩, hts _ hsta⟩ ⟨gP_blind, v_pre C hP hS⟩ rfl hn hl.1 hst (lv_room hcat) d ⟨hR.2.2.2.2.1, hR.2.2.2.2.2⟩) hS (fun q _ h => v_AW C q h) (v_AW C) (fun u t' H1 locs1 ht hvm hw hB hz1 hk1 hS1 => ?_)
  exact kk H1 locs1 ls (by rw [← ht]; exact hB) hS1 hl
theorem v_callN (C : gC p s m args meth c cc own n ret A D t ad) {host : String} {rest : List Value}
    (hM : Mi l D t ad y b mL ry rm As G r G') (hcode : Cond.code y b mL ry ∈ gtbl) (hlink : va_Nw (.methodLinkNest own index y host) s) (hsta : Cond.static y ∈ gtbl) (hini : Cond.initialized y.cls ∈ gtbl) (hd : yOk y nP) (hR : rm.frames + 1 ≤ R.frames ∧ 8 + (mL + 11) + rm.locals ≤ R.locals ∧ rm.cells = 0 ∧ rm.slots = 0 ∧ cells ≤ R.cells ∧ slots ≤ R.slots)
    (hn : As.length = nP) (hst : st = As.reverse ++ rest) (hcat : (rest.map fun v => v.category).sum ≤ 8) (d : decode cc pc = .ok (.invokestatic index, 3))
    (kk : V p l e R s m args below meth c A D t ad cells slots n Q G' (pc + 3) Lv (.int r :: rest)) : V p l e R s m args below meth c A D t ad cells slots n Q G pc Lv st := by
  intro H locs ls hP hS hl
  have hts := (gc_x C).1
  refine va_calli (va_runSN (As := As) (rest := rest) ⟨C.1, C.2.1, C.2.2.1, C.2.2.2.1, hts⟩ hM ⟨va_cnB nP hts (gd_c hcode) rfl hR.2.2.1 hR.2.2.2.1 hlink (hts _ hini) hd ⟨hR.1, hR.2.1⟩, hts _ hsta, trivial⟩ ⟨gP_blind, v_pre C hP hS⟩ rfl hn hl.1 hst (lv_room hcat) d ⟨hR.2.2.2.2.1, hR.2.2.2.2.2⟩) hS (fun q _ h => v_AW C q h) (v_AW C) (fun r' u t' H1 locs1 ht hvm hw hB hz1 hk1 hS1 => ?_)
  subst hw
  exact kk H1 locs1 ls (by rw [← ht]; exact hB) hS1 hl
theorem v_min (C : gC p s m args meth c cc own n ret A D t ad) {x z : Int32} (hlink : Cond.methodLink own index Lib.Math.min.name ∈ gtbl) (hsta : Cond.static Lib.Math.min.name ∈ gtbl) (hini : Cond.initialized "java/lang/Math" ∈ gtbl) (hcode : Cond.code Lib.Math.min.name Lib.Math.min.code 2 (some .int) ∈ gtbl) (hR : 1 ≤ R.frames ∧ 21 ≤ R.locals ∧ cells ≤ R.cells ∧ slots ≤ R.slots) (hcat : (st.map fun v => v.category).sum ≤ 8) (d : decode cc pc = .ok (.invokestatic index, 3))
    (kk : V p l e R s m args below meth c A D t ad cells slots n Q G (pc + 3) Lv (.int (if z < x then z else x) :: st)) : V p l e R s m args below meth c A D t ad cells slots n Q G pc Lv (.int z :: .int x :: st) :=
  fun H locs ls hP hS hl => va_mmin C.1 C.2.1 (C.2.2.1.trans hl.1.symm) C.2.2.2.1 ((gc_x C).1 _ hlink) ((gc_x C).1 _ hsta) ((gc_x C).1 _ hini) ((gc_x C).1 _ hcode) hR.1 (by have := hR.2.1; omega) hR.2.2.1 hR.2.2.2 d (kk H locs ls hP hS hl)
theorem v_max (C : gC p s m args meth c cc own n ret A D t ad) {x z : Int32} (hlink : Cond.methodLink own index Lib.Math.max.name ∈ gtbl) (hsta : Cond.static Lib.Math.max.name ∈ gtbl) (hini : Cond.initialized "java/lang/Math" ∈ gtbl) (hcode : Cond.code Lib.Math.max.name Lib.Math.max.code 2 (some .int) ∈ gtbl) (hR : 1 ≤ R.frames ∧ 21 ≤ R.locals ∧ cells ≤ R.cells ∧ slots ≤ R.slots) (hcat : (st.map fun v => v.category).sum ≤ 8) (d : decode cc pc = .ok (.invokestatic index, 3))
    (kk : V p l e R s m args below meth c A D t ad cells slots n Q G (pc + 3) Lv (.int (if x < z then z else x) :: st)) : V p l e R s m args below meth c A D t ad cells slots n Q G pc Lv (.int z :: .int x :: st) :=
  fun H locs ls hP hS hl => va_mmax C.1 C.2.1 (C.2.2.1.trans hl.1.symm) C.2.2.2.1 ((gc_x C).1 _ hlink) ((gc_x C).1 _ hsta) ((gc_x C).1 _ hini) ((gc_x C).1 _ hcode) hR.1 (by have := hR.2.1; omega) hR.2.2.1 hR.2.2.2 d (kk H locs ls hP hS hl)
theorem v_abs (C : gC p s m args meth c cc own n ret A D t ad) {x : Int32} (hlink : Cond.methodLink own index Lib.Math.abs.name ∈ gtbl) (hsta : Cond.static Lib.Math.abs.name ∈ gtbl) (hini : Cond.initialized "java/lang/Math" ∈ gtbl) (hcode : Cond.code Lib.Math.abs.name Lib.Math.abs.code 1 (some .int) ∈ gtbl) (hR : 1 ≤ R.frames ∧ 21 ≤ R.locals ∧ cells ≤ R.cells ∧ slots ≤ R.slots) (hcat : (st.map fun v => v.category).sum ≤ 8) (d : decode cc pc = .ok (.invokestatic index, 3))
    (kk : V p l e R s m args below meth c A D t ad cells slots n Q G (pc + 3) Lv (.int (if 0 ≤ x then x else 0 - x) :: st)) : V p l e R s m args below meth c A D t ad cells slots n Q G pc Lv (.int x :: st) :=
  fun H locs ls hP hS hl => va_mabs C.1 C.2.1 (C.2.2.1.trans hl.1.symm) C.2.2.2.1 ((gc_x C).1 _ hlink) ((gc_x C).1 _ hsta) ((gc_x C).1 _ hini) ((gc_x C).1 _ hcode) hR.1 (by have := hR.2.1; omega) hR.2.2.1 hR.2.2.2 d (kk H locs ls hP hS hl)
theorem v_ldc (C : gC p s m args meth c cc own n ret A D t ad) {v : Int32} (hlink : Cond.constant own index v ∈ gtbl) (d : decode cc pc = .ok (.ldc index, 2)) (kk : V p l e R s m args below meth c A D t ad cells slots n Q G (pc + 2) Lv (.int v :: st)) : V p l e R s m args below meth c A D t ad cells slots n Q G pc Lv st :=
  fun H locs ls hP hS hl => lv_ldc C.1 C.2.1 C.2.2.2.1 ((gc_x C).1 _ hlink) d (kk H locs ls hP hS hl)
theorem v_ldcw (C : gC p s m args meth c cc own n ret A D t ad) {v : Int32} (hlink : Cond.constant own index v ∈ gtbl) (d : decode cc pc = .ok (.ldc_w index, 3)) (kk : V p l e R s m args below meth c A D t ad cells slots n Q G (pc + 3) Lv (.int v :: st)) : V p l e R s m args below meth c A D t ad cells slots n Q G pc Lv st :=
  fun H locs ls hP hS hl => lv_ldcw C.1 C.2.1 C.2.2.2.1 ((gc_x C).1 _ hlink) d (kk H locs ls hP hS hl)
theorem v_iushr (C : gC p s m args meth c cc own n ret A D t ad) {x z : Int32} (d : decode cc pc = .ok (.iushr, 1)) (kk : V p l e R s m args below meth c A D t ad cells slots n Q G (pc + 1) Lv (.int (x.toUInt32 >>> (z.toUInt32 &&& Int32.toUInt32 31)).toInt32 :: st)) : V p l e R s m args below meth c A D t ad cells slots n Q G pc Lv (.int z :: .int x :: st) :=
  fun H locs ls hP hS hl => lv_iushr C.1 C.2.1 d rfl (kk H locs ls hP hS hl)
/-- the static tables of BlinkMesh -/
theorem v_gLst (C : gC p s m args meth c cc own n ret A D t ad) (hlink : Cond.fieldLink own index "BlinkMesh" "LEAST_SETTING" "[I" ∈ gtbl) (d : decode cc pc = .ok (.getstatic index, 3)) (kk : V p l e R s m args below meth c A D t ad cells slots n Q G (pc + 3) Lv (.ref (ad 80) :: st)) : V p l e R s m args below meth c A D t ad cells slots n Q G pc Lv st :=
  fun H locs ls hP hS hl => va_gets C.1 C.2.1 (gc_x C).2.2.2.1.1 hS C.2.2.2.1 ((gc_x C).1 _ hlink) (fun _ h => h) d (kk H locs ls hP hS hl)
theorem v_gGrt (C : gC p s m args meth c cc own n ret A D t ad) (hlink : Cond.fieldLink own index "BlinkMesh" "GREATEST_SETTING" "[I" ∈ gtbl) (d : decode cc pc = .ok (.getstatic index, 3)) (kk : V p l e R s m args below meth c A D t ad cells slots n Q G (pc + 3) Lv (.ref (ad 81) :: st)) : V p l e R s m args below meth c A D t ad cells slots n Q G pc Lv st :=
  fun H locs ls hP hS hl => va_gets C.1 C.2.1 (gc_x C).2.2.2.1.2.2.1 hS C.2.2.2.1 ((gc_x C).1 _ hlink) (fun _ h => h) d (kk H locs ls hP hS hl)
theorem v_ldLst (C : gC p s m args meth c cc own n ret A D t ad) {i : Int32} (hin : vp_in i 3) (d : decode cc pc = .ok (.iaload, 1)) (kk : V p l e R s m args below meth c A D t ad cells slots n Q G (pc + 1) Lv (.int (lstT i.toNatClampNeg) :: st)) : V p l e R s m args below meth c A D t ad cells slots n Q G pc Lv (.int i :: .ref (ad 80) :: st) :=
  fun H locs ls hP hS hl => va_ti C.1 C.2.1 (gc_x C).2.2.2.1.2.1 hS hin rfl d (kk H locs ls hP hS hl)
theorem v_ldGrt (C : gC p s m args meth c cc own n ret A D t ad) {i : Int32} (hin : vp_in i 3) (d : decode cc pc = .ok (.iaload, 1)) (kk : V p l e R s m args below meth c A D t ad cells slots n Q G (pc + 1) Lv (.int (grtT i.toNatClampNeg) :: st)) : V p l e R s m args below meth c A D t ad cells slots n Q G pc Lv (.int i :: .ref (ad 81) :: st) :=
  fun H locs ls hP hS hl => va_ti C.1 C.2.1 (gc_x C).2.2.2.1.2.2.2 hS hin rfl d (kk H locs ls hP hS hl)
/-- System.arraycopy of ints from 0, n at a time: between arrays of the world -/
def gcp (G : gG) (k0 k1 N : Nat) : gG := fun a b => if a = k1 then (if b < N then G k0 b else G a b) else G a b
theorem gcp_ne {G : gG} {k0 k1 N a : Nat} (h : a ≠ k1) : gcp G k0 k1 N a = G a := by funext b; simp [gcp, h]
theorem v_copy (C : gC p s m args meth c cc own n ret A D t ad) {k0 k1 N M : Nat} {z : Int32} (hk0 : k0 < 80) (hk1 : k1 < 80) (hc0 : ∀ g, ce t ad k0 g = .inl (t.1, N, .inl g)) (hc1 : ∀ g, ce t ad k1 g = .inl (t.1, N, .inl g)) (hz : z.toNatClampNeg = M ∧ ¬ z < 0) (hM : M ≤ N) (hlink : Cond.methodLink own index arraycopyName ∈ gtbl) (hnat : Cond.native arraycopyName ∈ gtbl) (hsta : Cond.static arraycopyName ∈ gtbl) (hini : Cond.initialized "java/lang/System" ∈ gtbl) (hR : 1 ≤ R.frames ∧ 8 + (nativeFrameWords "java/lang/System" "arraycopy" 5 + 11) ≤ R.locals) (hcat : (st.map fun v => v.category).sum ≤ 8) (d : decode cc pc = .ok (.invokestatic index, 3))
    (kk : V p l e R s m args below meth c A D t ad cells slots n Q (gcp G k0 k1 M) (pc + 3) Lv st) : V p l e R s m args below meth c A D t ad cells slots n Q G pc Lv (.int z :: .int 0 :: .ref (ad k1) :: .int 0 :: .ref (ad k0) :: st) := by
  intro H locs ls hP hS hl
  refine va_copyi C.1 C.2.1 (C.2.2.1.trans hl.1.symm) C.2.2.2.1 ((gc_x C).1 _ hlink) ((gc_x C).1 _ hnat) ((gc_x C).1 _ hsta) ((gc_x C).1 _ hini) (gc_x C).2.1 hP (gc_D C G) hS k0 k1 0 0 (gws_ate hk0 (hc0 _)) (gws_ate hk1 (hc1 _)) rfl rfl rfl (by decide) (by decide) hz.2 (by rw [hz.1]; simpa using hM) (by rw [hz.1]; simpa using hM) (fun _ _ => rfl) hR.1 (by have := hR.2; omega) d (fun H1 locs1 hP1 _ hS1 => ?_)
  rw [gws_set (G := G) (G' := gcp G k0 k1 M) hk1 ?_ (fun j hj => gcp_ne hj)] at hP1
  · exact kk H1 locs1 ls hP1 hS1 hl
  · rw [hc1, hz.1]
    congr 3
    congr 1
    funext j
    simp [gcp, va_cpy]
end V2
end
section
theorem k0 : (Jvm.Cond.initialized "BlinkMeshLaw") ∈ gtbl := gw 0 (by decide +kernel) rfl
theorem k1 : (Jvm.Cond.initialized "BlinkMesh") ∈ gtbl := gw 1 (by decide +kernel) rfl
theorem k2 : (Jvm.Cond.initialized "BlinkMesh$Mesh") ∈ gtbl := gw 2 (by decide +kernel) rfl
theorem k3 : (Jvm.Cond.initialized "BlinkMesh$History") ∈ gtbl := gw 3 (by decide +kernel) rfl
theorem k4 : (Jvm.Cond.initialized "BlinkMesh$MeshText") ∈ gtbl := gw 4 (by decide +kernel) rfl
theorem k5 : (Jvm.Cond.initialized "BlinkMeshModel") ∈ gtbl := gw 5 (by decide +kernel) rfl
theorem k6 : (Jvm.Cond.initialized "java/lang/System") ∈ gtbl := gw 6 (by decide +kernel) rfl
theorem k7 : (Jvm.Cond.initialized "java/lang/Integer") ∈ gtbl := gw 7 (by decide +kernel) rfl
theorem k8 : (Jvm.Cond.initialized "java/lang/Math") ∈ gtbl := gw 8 (by decide +kernel) rfl
theorem k9 : (Jvm.Cond.classLink "BlinkMeshLaw" (7 : Nat) "BlinkMesh") ∈ gtbl := gw 9 (by decide +kernel) rfl
theorem k10 : (Jvm.Cond.instantiable "BlinkMesh" (6 : Nat)) ∈ gtbl := gw 10 (by decide +kernel) rfl
theorem k11 : (Jvm.Cond.methodLink "BlinkMeshLaw" (9 : Nat) ({ cls := "BlinkMesh", name := "<init>", desc := "()V" } : Jvm.MethodName)) ∈ gtbl := gw 11 (by decide +kernel) rfl
theorem k12 : (Jvm.Cond.instanceMethod ({ cls := "BlinkMesh", name := "<init>", desc := "()V" } : Jvm.MethodName)) ∈ gtbl := gw 12 (by decide +kernel) rfl
theorem k13 : (Jvm.Cond.code ({ cls := "BlinkMesh", name := "<init>", desc := "()V" } : Jvm.MethodName) prog_1_method_1_code (1 : Nat) (Option.none : Option Jvm.ClassFile.FieldType)) ∈ gtbl := gw 13 (by decide +kernel) rfl
theorem k14 : (Jvm.Cond.methodLink "BlinkMesh" (1 : Nat) ({ cls := "java/lang/Object", name := "<init>", desc := "()V" } : Jvm.MethodName)) ∈ gtbl := gw 14 (by decide +kernel) rfl
theorem k15 : (Jvm.Cond.instanceMethod ({ cls := "java/lang/Object", name := "<init>", desc := "()V" } : Jvm.MethodName)) ∈ gtbl := gw 15 (by decide +kernel) rfl
theorem k16 : (Jvm.Cond.code ({ cls := "java/lang/Object", name := "<init>", desc := "()V" } : Jvm.MethodName) object_method_1_code (1 : Nat) (Option.none : Option Jvm.ClassFile.FieldType)) ∈ gtbl := gw 16 (by decide +kernel) rfl
theorem k17 : (Jvm.Cond.classLink "BlinkMesh" (7 : Nat) "BlinkMesh$Mesh") ∈ gtbl := gw 17 (by decide +kernel) rfl
theorem k18 : (Jvm.Cond.instantiable "BlinkMesh$Mesh" (15 : Nat)) ∈ gtbl := gw 18 (by decide +kernel) rfl
theorem k20 : (Jvm.Cond.instanceMethod ({ cls := "BlinkMesh$Mesh", name := "<init>", desc := "()V" } : Jvm.MethodName)) ∈ gtbl := gw 20 (by decide +kernel) rfl
theorem k21 : (Jvm.Cond.code ({ cls := "BlinkMesh$Mesh", name := "<init>", desc := "()V" } : Jvm.MethodName) prog_3_method_1_code (1 : Nat) (Option.none : Option Jvm.ClassFile.FieldType)) ∈ gtbl := gw 21 (by decide +kernel) rfl
theorem k22 : (Jvm.Cond.methodLink "BlinkMesh$Mesh" (3 : Nat) ({ cls := "java/lang/Object", name := "<init>", desc := "()V" } : Jvm.MethodName)) ∈ gtbl := gw 22 (by decide +kernel) rfl
theorem k25 : (Jvm.Cond.methodLink "BlinkMesh$Mesh" (36 : Nat) ({ cls := "[I", name := "clone", desc := "()Ljava/lang/Object;" } : Jvm.MethodName)) ∈ gtbl := gw 25 (by decide +kernel) rfl
theorem k27 : (Jvm.Cond.native ({ cls := "java/lang/Object", name := "clone", desc := "()Ljava/lang/Object;" } : Jvm.MethodName)) ∈ gtbl := gw 27 (by decide +kernel) rfl
theorem k28 : (Jvm.Cond.instanceMethod ({ cls := "java/lang/Object", name := "clone", desc := "()Ljava/lang/Object;" } : Jvm.MethodName)) ∈ gtbl := gw 28 (by decide +kernel) rfl
theorem k29 : (Jvm.Cond.selects "[I" ({ cls := "[I", name := "clone", desc := "()Ljava/lang/Object;" } : Jvm.MethodName) ({ cls := "java/lang/Object", name := "clone", desc := "()Ljava/lang/Object;" } : Jvm.MethodName)) ∈ gtbl := gw 29 (by decide +kernel) rfl
theorem k31 : (Jvm.Cond.classLink "BlinkMesh$Mesh" (37 : Nat) "[I") ∈ gtbl := gw 31 (by decide +kernel) rfl
theorem k32 : (Jvm.Cond.fieldLink "BlinkMesh$Mesh" (9 : Nat) "BlinkMesh$Mesh" "phase" "[I") ∈ gtbl := gw 32 (by decide +kernel) rfl
theorem k33 : (Jvm.Cond.fieldLink "BlinkMesh$Mesh" (15 : Nat) "BlinkMesh$Mesh" "rate" "[I") ∈ gtbl := gw 33 (by decide +kernel) rfl
theorem k34 : (Jvm.Cond.fieldLink "BlinkMesh$Mesh" (18 : Nat) "BlinkMesh$Mesh" "deaf" "[I") ∈ gtbl := gw 34 (by decide +kernel) rfl
theorem k35 : (Jvm.Cond.fieldLink "BlinkMesh$Mesh" (21 : Nat) "BlinkMesh$Mesh" "linked" "[I") ∈ gtbl := gw 35 (by decide +kernel) rfl
theorem k36 : (Jvm.Cond.fieldLink "BlinkMesh$Mesh" (24 : Nat) "BlinkMesh$Mesh" "blinks" "[I") ∈ gtbl := gw 36 (by decide +kernel) rfl
theorem k37 : (Jvm.Cond.fieldLink "BlinkMesh$Mesh" (27 : Nat) "BlinkMesh$Mesh" "latest" "[I") ∈ gtbl := gw 37 (by decide +kernel) rfl
theorem k38 : (Jvm.Cond.fieldLink "BlinkMesh$Mesh" (30 : Nat) "BlinkMesh$Mesh" "pushes" "[I") ∈ gtbl := gw 38 (by decide +kernel) rfl
theorem k39 : (Jvm.Cond.fieldLink "BlinkMesh$Mesh" (41 : Nat) "BlinkMesh$Mesh" "settings" "[I") ∈ gtbl := gw 39 (by decide +kernel) rfl
theorem k40 : (Jvm.Cond.fieldLink "BlinkMesh$Mesh" (50 : Nat) "BlinkMesh$Mesh" "there" "I") ∈ gtbl := gw 40 (by decide +kernel) rfl
theorem k41 : (Jvm.Cond.fieldLink "BlinkMesh$Mesh" (54 : Nat) "BlinkMesh$Mesh" "on" "I") ∈ gtbl := gw 41 (by decide +kernel) rfl
theorem k42 : (Jvm.Cond.fieldLink "BlinkMesh$Mesh" (57 : Nat) "BlinkMesh$Mesh" "tick" "I") ∈ gtbl := gw 42 (by decide +kernel) rfl
theorem k43 : (Jvm.Cond.fieldLink "BlinkMesh$Mesh" (60 : Nat) "BlinkMesh$Mesh" "blinkCount" "I") ∈ gtbl := gw 43 (by decide +kernel) rfl
theorem k44 : (Jvm.Cond.fieldLink "BlinkMesh$Mesh" (63 : Nat) "BlinkMesh$Mesh" "pushCount" "I") ∈ gtbl := gw 44 (by decide +kernel) rfl
theorem k45 : (Jvm.Cond.fieldLink "BlinkMesh$Mesh" (66 : Nat) "BlinkMesh$Mesh" "sharedTicks" "I") ∈ gtbl := gw 45 (by decide +kernel) rfl
theorem k46 : (Jvm.Cond.fieldLink "BlinkMesh$Mesh" (69 : Nat) "BlinkMesh$Mesh" "mostTogether" "I") ∈ gtbl := gw 46 (by decide +kernel) rfl
theorem k78 : (Jvm.Cond.arrayClass Jvm.ClassFile.FieldType.int) ∈ gtbl := gw 78 (by decide +kernel) rfl
theorem k79 : (Jvm.Cond.classLink "BlinkMesh" (26 : Nat) "BlinkMesh$History") ∈ gtbl := gw 79 (by decide +kernel) rfl
theorem k80 : (Jvm.Cond.instantiable "BlinkMesh$History" (2 : Nat)) ∈ gtbl := gw 80 (by decide +kernel) rfl
theorem k81 : (Jvm.Cond.methodLink "BlinkMesh" (28 : Nat) ({ cls := "BlinkMesh$History", name := "<init>", desc := "()V" } : Jvm.MethodName)) ∈ gtbl := gw 81 (by decide +kernel) rfl
theorem k82 : (Jvm.Cond.instanceMethod ({ cls := "BlinkMesh$History", name := "<init>", desc := "()V" } : Jvm.MethodName)) ∈ gtbl := gw 82 (by decide +kernel) rfl
theorem k83 : (Jvm.Cond.code ({ cls := "BlinkMesh$History", name := "<init>", desc := "()V" } : Jvm.MethodName) prog_2_method_1_code (2 : Nat) (Option.none : Option Jvm.ClassFile.FieldType)) ∈ gtbl := gw 83 (by decide +kernel) rfl
theorem k84 : (Jvm.Cond.methodLink "BlinkMesh$History" (3 : Nat) ({ cls := "java/lang/Object", name := "<init>", desc := "()V" } : Jvm.MethodName)) ∈ gtbl := gw 84 (by decide +kernel) rfl
theorem k85 : (Jvm.Cond.classLink "BlinkMesh$History" (9 : Nat) "BlinkMesh$Mesh") ∈ gtbl := gw 85 (by decide +kernel) rfl
theorem k88 : (Jvm.Cond.fieldLink "BlinkMesh$History" (11 : Nat) "BlinkMesh$History" "states" "[LBlinkMesh$Mesh;") ∈ gtbl := gw 88 (by decide +kernel) rfl
theorem k89 : (Jvm.Cond.fieldLink "BlinkMesh$History" (18 : Nat) "BlinkMesh$History" "kept" "I") ∈ gtbl := gw 89 (by decide +kernel) rfl
theorem k95 : (Jvm.Cond.classLink "BlinkMesh" (33 : Nat) "BlinkMesh$MeshText") ∈ gtbl := gw 95 (by decide +kernel) rfl
theorem k96 : (Jvm.Cond.instantiable "BlinkMesh$MeshText" (7 : Nat)) ∈ gtbl := gw 96 (by decide +kernel) rfl
theorem k98 : (Jvm.Cond.instanceMethod ({ cls := "BlinkMesh$MeshText", name := "<init>", desc := "()V" } : Jvm.MethodName)) ∈ gtbl := gw 98 (by decide +kernel) rfl
theorem k99 : (Jvm.Cond.code ({ cls := "BlinkMesh$MeshText", name := "<init>", desc := "()V" } : Jvm.MethodName) prog_4_method_1_code (1 : Nat) (Option.none : Option Jvm.ClassFile.FieldType)) ∈ gtbl := gw 99 (by decide +kernel) rfl
theorem k100 : (Jvm.Cond.methodLink "BlinkMesh$MeshText" (3 : Nat) ({ cls := "java/lang/Object", name := "<init>", desc := "()V" } : Jvm.MethodName)) ∈ gtbl := gw 100 (by decide +kernel) rfl
theorem k101 : (Jvm.Cond.fieldLink "BlinkMesh$MeshText" (9 : Nat) "BlinkMesh$MeshText" "characters" "[C") ∈ gtbl := gw 101 (by decide +kernel) rfl
theorem k102 : (Jvm.Cond.fieldLink "BlinkMesh$MeshText" (25 : Nat) "BlinkMesh$MeshText" "length" "I") ∈ gtbl := gw 102 (by decide +kernel) rfl
theorem k103 : (Jvm.Cond.fieldLink "BlinkMesh$MeshText" (29 : Nat) "BlinkMesh$MeshText" "place" "I") ∈ gtbl := gw 103 (by decide +kernel) rfl
theorem k104 : (Jvm.Cond.fieldLink "BlinkMesh$MeshText" (15 : Nat) "BlinkMesh$MeshText" "phase" "[I") ∈ gtbl := gw 104 (by decide +kernel) rfl
theorem k105 : (Jvm.Cond.fieldLink "BlinkMesh$MeshText" (19 : Nat) "BlinkMesh$MeshText" "rate" "[I") ∈ gtbl := gw 105 (by decide +kernel) rfl
theorem k106 : (Jvm.Cond.fieldLink "BlinkMesh$MeshText" (37 : Nat) "BlinkMesh$MeshText" "lampCount" "I") ∈ gtbl := gw 106 (by decide +kernel) rfl
theorem k107 : (Jvm.Cond.fieldLink "BlinkMesh$MeshText" (22 : Nat) "BlinkMesh$MeshText" "linked" "[I") ∈ gtbl := gw 107 (by decide +kernel) rfl
theorem k123 : (Jvm.Cond.arrayClass Jvm.ClassFile.FieldType.char) ∈ gtbl := gw 123 (by decide +kernel) rfl
theorem k124 : (Jvm.Cond.fieldLink "BlinkMesh" (10 : Nat) "BlinkMesh" "mesh" "LBlinkMesh$Mesh;") ∈ gtbl := gw 124 (by decide +kernel) rfl
theorem k125 : (Jvm.Cond.fieldLink "BlinkMesh" (16 : Nat) "BlinkMesh" "trial" "LBlinkMesh$Mesh;") ∈ gtbl := gw 125 (by decide +kernel) rfl
theorem k126 : (Jvm.Cond.fieldLink "BlinkMesh" (19 : Nat) "BlinkMesh" "snapshot" "LBlinkMesh$Mesh;") ∈ gtbl := gw 126 (by decide +kernel) rfl
theorem k127 : (Jvm.Cond.fieldLink "BlinkMesh" (22 : Nat) "BlinkMesh" "hasSnapshot" "Z") ∈ gtbl := gw 127 (by decide +kernel) rfl
theorem k128 : (Jvm.Cond.fieldLink "BlinkMesh" (29 : Nat) "BlinkMesh" "history" "LBlinkMesh$History;") ∈ gtbl := gw 128 (by decide +kernel) rfl
theorem k129 : (Jvm.Cond.fieldLink "BlinkMesh" (36 : Nat) "BlinkMesh" "text" "LBlinkMesh$MeshText;") ∈ gtbl := gw 129 (by decide +kernel) rfl
theorem k143 : (Jvm.Cond.methodLink "BlinkMeshLaw" (13 : Nat) ({ cls := "BlinkMesh", name := "come", desc := "(II)I" } : Jvm.MethodName)) ∈ gtbl := gw 143 (by decide +kernel) rfl
theorem k144 : (Jvm.Cond.instanceMethod ({ cls := "BlinkMesh", name := "come", desc := "(II)I" } : Jvm.MethodName)) ∈ gtbl := gw 144 (by decide +kernel) rfl
theorem k145 : (Jvm.Cond.selects "BlinkMesh" ({ cls := "BlinkMesh", name := "come", desc := "(II)I" } : Jvm.MethodName) ({ cls := "BlinkMesh", name := "come", desc := "(II)I" } : Jvm.MethodName)) ∈ gtbl := gw 145 (by decide +kernel) rfl
theorem k146 : (Jvm.Cond.code ({ cls := "BlinkMesh", name := "come", desc := "(II)I" } : Jvm.MethodName) prog_1_method_2_code (4 : Nat) (Option.some Jvm.ClassFile.FieldType.int)) ∈ gtbl := gw 146 (by decide +kernel) rfl
theorem k147 : (Jvm.Cond.methodLink "BlinkMesh" (40 : Nat) ({ cls := "BlinkMesh$Mesh", name := "isWholePhase", desc := "(I)Z" } : Jvm.MethodName)) ∈ gtbl := gw 147 (by decide +kernel) rfl
theorem k148 : (Jvm.Cond.instanceMethod ({ cls := "BlinkMesh$Mesh", name := "isWholePhase", desc := "(I)Z" } : Jvm.MethodName)) ∈ gtbl := gw 148 (by decide +kernel) rfl
theorem k149 : (Jvm.Cond.selects "BlinkMesh$Mesh" ({ cls := "BlinkMesh$Mesh", name := "isWholePhase", desc := "(I)Z" } : Jvm.MethodName) ({ cls := "BlinkMesh$Mesh", name := "isWholePhase", desc := "(I)Z" } : Jvm.MethodName)) ∈ gtbl := gw 149 (by decide +kernel) rfl
theorem k150 : (Jvm.Cond.code ({ cls := "BlinkMesh$Mesh", name := "isWholePhase", desc := "(I)Z" } : Jvm.MethodName) prog_3_method_7_code (2 : Nat) (Option.some Jvm.ClassFile.FieldType.boolean)) ∈ gtbl := gw 150 (by decide +kernel) rfl
theorem k151 : (Jvm.Cond.methodLink "BlinkMesh" (44 : Nat) ({ cls := "BlinkMesh", name := "isRate", desc := "(I)Z" } : Jvm.MethodName)) ∈ gtbl := gw 151 (by decide +kernel) rfl
theorem k152 : (Jvm.Cond.static ({ cls := "BlinkMesh", name := "isRate", desc := "(I)Z" } : Jvm.MethodName)) ∈ gtbl := gw 152 (by decide +kernel) rfl
theorem k153 : (Jvm.Cond.code ({ cls := "BlinkMesh", name := "isRate", desc := "(I)Z" } : Jvm.MethodName) prog_1_method_25_code (1 : Nat) (Option.some Jvm.ClassFile.FieldType.boolean)) ∈ gtbl := gw 153 (by decide +kernel) rfl
theorem k154 : (Jvm.Cond.methodLink "BlinkMesh" (47 : Nat) ({ cls := "BlinkMesh$Mesh", name := "freeNumber", desc := "()I" } : Jvm.MethodName)) ∈ gtbl := gw 154 (by decide +kernel) rfl
theorem k155 : (Jvm.Cond.instanceMethod ({ cls := "BlinkMesh$Mesh", name := "freeNumber", desc := "()I" } : Jvm.MethodName)) ∈ gtbl := gw 155 (by decide +kernel) rfl
theorem k156 : (Jvm.Cond.selects "BlinkMesh$Mesh" ({ cls := "BlinkMesh$Mesh", name := "freeNumber", desc := "()I" } : Jvm.MethodName) ({ cls := "BlinkMesh$Mesh", name := "freeNumber", desc := "()I" } : Jvm.MethodName)) ∈ gtbl := gw 156 (by decide +kernel) rfl
theorem k157 : (Jvm.Cond.code ({ cls := "BlinkMesh$Mesh", name := "freeNumber", desc := "()I" } : Jvm.MethodName) prog_3_method_14_code (2 : Nat) (Option.some Jvm.ClassFile.FieldType.int)) ∈ gtbl := gw 157 (by decide +kernel) rfl
theorem k159 : (Jvm.Cond.static ({ cls := "BlinkMesh", name := "holds", desc := "(II)Z" } : Jvm.MethodName)) ∈ gtbl := gw 159 (by decide +kernel) rfl
theorem k160 : (Jvm.Cond.code ({ cls := "BlinkMesh", name := "holds", desc := "(II)Z" } : Jvm.MethodName) prog_1_method_26_code (2 : Nat) (Option.some Jvm.ClassFile.FieldType.boolean)) ∈ gtbl := gw 160 (by decide +kernel) rfl
theorem k161 : (Jvm.Cond.methodLink "BlinkMesh" (51 : Nat) ({ cls := "BlinkMesh$History", name := "remember", desc := "(LBlinkMesh$Mesh;)V" } : Jvm.MethodName)) ∈ gtbl := gw 161 (by decide +kernel) rfl
theorem k162 : (Jvm.Cond.instanceMethod ({ cls := "BlinkMesh$History", name := "remember", desc := "(LBlinkMesh$Mesh;)V" } : Jvm.MethodName)) ∈ gtbl := gw 162 (by decide +kernel) rfl
theorem k163 : (Jvm.Cond.selects "BlinkMesh$History" ({ cls := "BlinkMesh$History", name := "remember", desc := "(LBlinkMesh$Mesh;)V" } : Jvm.MethodName) ({ cls := "BlinkMesh$History", name := "remember", desc := "(LBlinkMesh$Mesh;)V" } : Jvm.MethodName)) ∈ gtbl := gw 163 (by decide +kernel) rfl
theorem k164 : (Jvm.Cond.code ({ cls := "BlinkMesh$History", name := "remember", desc := "(LBlinkMesh$Mesh;)V" } : Jvm.MethodName) prog_2_method_3_code (2 : Nat) (Option.none : Option Jvm.ClassFile.FieldType)) ∈ gtbl := gw 164 (by decide +kernel) rfl
theorem k165 : (Jvm.Cond.methodLink "BlinkMesh$History" (22 : Nat) ({ cls := "BlinkMesh$History", name := "dropOldest", desc := "()V" } : Jvm.MethodName)) ∈ gtbl := gw 165 (by decide +kernel) rfl
theorem k167 : (Jvm.Cond.instanceMethod ({ cls := "BlinkMesh$History", name := "dropOldest", desc := "()V" } : Jvm.MethodName)) ∈ gtbl := gw 167 (by decide +kernel) rfl
theorem k168 : (Jvm.Cond.code ({ cls := "BlinkMesh$History", name := "dropOldest", desc := "()V" } : Jvm.MethodName) prog_2_method_4_code (3 : Nat) (Option.none : Option Jvm.ClassFile.FieldType)) ∈ gtbl := gw 168 (by decide +kernel) rfl
theorem k169 : (Jvm.Cond.methodLink "BlinkMesh$History" (25 : Nat) ({ cls := "BlinkMesh$Mesh", name := "copyFrom", desc := "(LBlinkMesh$Mesh;)V" } : Jvm.MethodName)) ∈ gtbl := gw 169 (by decide +kernel) rfl
theorem k170 : (Jvm.Cond.instanceMethod ({ cls := "BlinkMesh$Mesh", name := "copyFrom", desc := "(LBlinkMesh$Mesh;)V" } : Jvm.MethodName)) ∈ gtbl := gw 170 (by decide +kernel) rfl
theorem k171 : (Jvm.Cond.selects "BlinkMesh$Mesh" ({ cls := "BlinkMesh$Mesh", name := "copyFrom", desc := "(LBlinkMesh$Mesh;)V" } : Jvm.MethodName) ({ cls := "BlinkMesh$Mesh", name := "copyFrom", desc := "(LBlinkMesh$Mesh;)V" } : Jvm.MethodName)) ∈ gtbl := gw 171 (by decide +kernel) rfl
theorem k172 : (Jvm.Cond.code ({ cls := "BlinkMesh$Mesh", name := "copyFrom", desc := "(LBlinkMesh$Mesh;)V" } : Jvm.MethodName) prog_3_method_2_code (2 : Nat) (Option.none : Option Jvm.ClassFile.FieldType)) ∈ gtbl := gw 172 (by decide +kernel) rfl
theorem k173 : (Jvm.Cond.methodLink "BlinkMesh$Mesh" (44 : Nat) ({ cls := "java/lang/System", name := "arraycopy", desc := "(Ljava/lang/Object;ILjava/lang/Object;II)V" } : Jvm.MethodName)) ∈ gtbl := gw 173 (by decide +kernel) rfl
theorem k174 : (Jvm.Cond.static ({ cls := "java/lang/System", name := "arraycopy", desc := "(Ljava/lang/Object;ILjava/lang/Object;II)V" } : Jvm.MethodName)) ∈ gtbl := gw 174 (by decide +kernel) rfl
theorem k175 : (Jvm.Cond.native ({ cls := "java/lang/System", name := "arraycopy", desc := "(Ljava/lang/Object;ILjava/lang/Object;II)V" } : Jvm.MethodName)) ∈ gtbl := gw 175 (by decide +kernel) rfl
theorem k176 : (Jvm.Cond.methodLink "BlinkMesh" (55 : Nat) ({ cls := "BlinkMesh$Mesh", name := "place", desc := "(III)V" } : Jvm.MethodName)) ∈ gtbl := gw 176 (by decide +kernel) rfl
theorem k177 : (Jvm.Cond.instanceMethod ({ cls := "BlinkMesh$Mesh", name := "place", desc := "(III)V" } : Jvm.MethodName)) ∈ gtbl := gw 177 (by decide +kernel) rfl
theorem k178 : (Jvm.Cond.selects "BlinkMesh$Mesh" ({ cls := "BlinkMesh$Mesh", name := "place", desc := "(III)V" } : Jvm.MethodName) ({ cls := "BlinkMesh$Mesh", name := "place", desc := "(III)V" } : Jvm.MethodName)) ∈ gtbl := gw 178 (by decide +kernel) rfl
theorem k179 : (Jvm.Cond.code ({ cls := "BlinkMesh$Mesh", name := "place", desc := "(III)V" } : Jvm.MethodName) prog_3_method_15_code (4 : Nat) (Option.none : Option Jvm.ClassFile.FieldType)) ∈ gtbl := gw 179 (by decide +kernel) rfl
theorem k180 : (Jvm.Cond.methodLink "BlinkMeshLaw" (18 : Nat) ({ cls := "BlinkMesh", name := "goAway", desc := "(I)I" } : Jvm.MethodName)) ∈ gtbl := gw 180 (by decide +kernel) rfl
theorem k181 : (Jvm.Cond.instanceMethod ({ cls := "BlinkMesh", name := "goAway", desc := "(I)I" } : Jvm.MethodName)) ∈ gtbl := gw 181 (by decide +kernel) rfl
theorem k182 : (Jvm.Cond.selects "BlinkMesh" ({ cls := "BlinkMesh", name := "goAway", desc := "(I)I" } : Jvm.MethodName) ({ cls := "BlinkMesh", name := "goAway", desc := "(I)I" } : Jvm.MethodName)) ∈ gtbl := gw 182 (by decide +kernel) rfl
theorem k183 : (Jvm.Cond.code ({ cls := "BlinkMesh", name := "goAway", desc := "(I)I" } : Jvm.MethodName) prog_1_method_3_code (2 : Nat) (Option.some Jvm.ClassFile.FieldType.int)) ∈ gtbl := gw 183 (by decide +kernel) rfl
theorem k184 : (Jvm.Cond.methodLink "BlinkMesh" (59 : Nat) ({ cls := "BlinkMesh$Mesh", name := "has", desc := "(I)Z" } : Jvm.MethodName)) ∈ gtbl := gw 184 (by decide +kernel) rfl
theorem k185 : (Jvm.Cond.instanceMethod ({ cls := "BlinkMesh$Mesh", name := "has", desc := "(I)Z" } : Jvm.MethodName)) ∈ gtbl := gw 185 (by decide +kernel) rfl
theorem k186 : (Jvm.Cond.selects "BlinkMesh$Mesh" ({ cls := "BlinkMesh$Mesh", name := "has", desc := "(I)Z" } : Jvm.MethodName) ({ cls := "BlinkMesh$Mesh", name := "has", desc := "(I)Z" } : Jvm.MethodName)) ∈ gtbl := gw 186 (by decide +kernel) rfl
theorem k187 : (Jvm.Cond.code ({ cls := "BlinkMesh$Mesh", name := "has", desc := "(I)Z" } : Jvm.MethodName) prog_3_method_3_code (2 : Nat) (Option.some Jvm.ClassFile.FieldType.boolean)) ∈ gtbl := gw 187 (by decide +kernel) rfl
theorem k188 : (Jvm.Cond.methodLink "BlinkMesh" (62 : Nat) ({ cls := "BlinkMesh$Mesh", name := "remove", desc := "(I)I" } : Jvm.MethodName)) ∈ gtbl := gw 188 (by decide +kernel) rfl
theorem k189 : (Jvm.Cond.instanceMethod ({ cls := "BlinkMesh$Mesh", name := "remove", desc := "(I)I" } : Jvm.MethodName)) ∈ gtbl := gw 189 (by decide +kernel) rfl
theorem k190 : (Jvm.Cond.selects "BlinkMesh$Mesh" ({ cls := "BlinkMesh$Mesh", name := "remove", desc := "(I)I" } : Jvm.MethodName) ({ cls := "BlinkMesh$Mesh", name := "remove", desc := "(I)I" } : Jvm.MethodName)) ∈ gtbl := gw 190 (by decide +kernel) rfl
theorem k191 : (Jvm.Cond.code ({ cls := "BlinkMesh$Mesh", name := "remove", desc := "(I)I" } : Jvm.MethodName) prog_3_method_16_code (5 : Nat) (Option.some Jvm.ClassFile.FieldType.int)) ∈ gtbl := gw 191 (by decide +kernel) rfl
theorem k192 : (Jvm.Cond.methodLink "BlinkMesh$Mesh" (83 : Nat) ({ cls := "java/lang/Integer", name := "bitCount", desc := "(I)I" } : Jvm.MethodName)) ∈ gtbl := gw 192 (by decide +kernel) rfl
theorem k193 : (Jvm.Cond.static ({ cls := "java/lang/Integer", name := "bitCount", desc := "(I)I" } : Jvm.MethodName)) ∈ gtbl := gw 193 (by decide +kernel) rfl
theorem k194 : (Jvm.Cond.code ({ cls := "java/lang/Integer", name := "bitCount", desc := "(I)I" } : Jvm.MethodName) prog_8_method_49_code (1 : Nat) (Option.some Jvm.ClassFile.FieldType.int)) ∈ gtbl := gw 194 (by decide +kernel) rfl
theorem k195 : (Jvm.Cond.constant "java/lang/Integer" (265 : Nat) (1431655765 : Int32)) ∈ gtbl := gw 195 (by decide +kernel) rfl
theorem k196 : (Jvm.Cond.constant "java/lang/Integer" (266 : Nat) (858993459 : Int32)) ∈ gtbl := gw 196 (by decide +kernel) rfl
theorem k197 : (Jvm.Cond.constant "java/lang/Integer" (267 : Nat) (252645135 : Int32)) ∈ gtbl := gw 197 (by decide +kernel) rfl
theorem k198 : (Jvm.Cond.methodLink "BlinkMeshLaw" (23 : Nat) ({ cls := "BlinkMesh", name := "turn", desc := "(IZ)I" } : Jvm.MethodName)) ∈ gtbl := gw 198 (by decide +kernel) rfl
theorem k199 : (Jvm.Cond.instanceMethod ({ cls := "BlinkMesh", name := "turn", desc := "(IZ)I" } : Jvm.MethodName)) ∈ gtbl := gw 199 (by decide +kernel) rfl
theorem k200 : (Jvm.Cond.selects "BlinkMesh" ({ cls := "BlinkMesh", name := "turn", desc := "(IZ)I" } : Jvm.MethodName) ({ cls := "BlinkMesh", name := "turn", desc := "(IZ)I" } : Jvm.MethodName)) ∈ gtbl := gw 200 (by decide +kernel) rfl
theorem k201 : (Jvm.Cond.code ({ cls := "BlinkMesh", name := "turn", desc := "(IZ)I" } : Jvm.MethodName) prog_1_method_4_code (3 : Nat) (Option.some Jvm.ClassFile.FieldType.int)) ∈ gtbl := gw 201 (by decide +kernel) rfl
theorem k202 : (Jvm.Cond.methodLink "BlinkMesh" (66 : Nat) ({ cls := "BlinkMesh$Mesh", name := "isOn", desc := "(I)Z" } : Jvm.MethodName)) ∈ gtbl := gw 202 (by decide +kernel) rfl
theorem k203 : (Jvm.Cond.instanceMethod ({ cls := "BlinkMesh$Mesh", name := "isOn", desc := "(I)Z" } : Jvm.MethodName)) ∈ gtbl := gw 203 (by decide +kernel) rfl
theorem k204 : (Jvm.Cond.selects "BlinkMesh$Mesh" ({ cls := "BlinkMesh$Mesh", name := "isOn", desc := "(I)Z" } : Jvm.MethodName) ({ cls := "BlinkMesh$Mesh", name := "isOn", desc := "(I)Z" } : Jvm.MethodName)) ∈ gtbl := gw 204 (by decide +kernel) rfl
theorem k205 : (Jvm.Cond.code ({ cls := "BlinkMesh$Mesh", name := "isOn", desc := "(I)Z" } : Jvm.MethodName) prog_3_method_4_code (2 : Nat) (Option.some Jvm.ClassFile.FieldType.boolean)) ∈ gtbl := gw 205 (by decide +kernel) rfl
theorem k206 : (Jvm.Cond.methodLink "BlinkMesh" (69 : Nat) ({ cls := "BlinkMesh$Mesh", name := "switchTo", desc := "(IZ)V" } : Jvm.MethodName)) ∈ gtbl := gw 206 (by decide +kernel) rfl
theorem k207 : (Jvm.Cond.instanceMethod ({ cls := "BlinkMesh$Mesh", name := "switchTo", desc := "(IZ)V" } : Jvm.MethodName)) ∈ gtbl := gw 207 (by decide +kernel) rfl
theorem k208 : (Jvm.Cond.selects "BlinkMesh$Mesh" ({ cls := "BlinkMesh$Mesh", name := "switchTo", desc := "(IZ)V" } : Jvm.MethodName) ({ cls := "BlinkMesh$Mesh", name := "switchTo", desc := "(IZ)V" } : Jvm.MethodName)) ∈ gtbl := gw 208 (by decide +kernel) rfl
theorem k209 : (Jvm.Cond.code ({ cls := "BlinkMesh$Mesh", name := "switchTo", desc := "(IZ)V" } : Jvm.MethodName) prog_3_method_18_code (3 : Nat) (Option.none : Option Jvm.ClassFile.FieldType)) ∈ gtbl := gw 209 (by decide +kernel) rfl
theorem k210 : (Jvm.Cond.methodLink "BlinkMesh" (73 : Nat) ({ cls := "BlinkMesh$Mesh", name := "lampsOn", desc := "()I" } : Jvm.MethodName)) ∈ gtbl := gw 210 (by decide +kernel) rfl
theorem k211 : (Jvm.Cond.instanceMethod ({ cls := "BlinkMesh$Mesh", name := "lampsOn", desc := "()I" } : Jvm.MethodName)) ∈ gtbl := gw 211 (by decide +kernel) rfl
theorem k212 : (Jvm.Cond.selects "BlinkMesh$Mesh" ({ cls := "BlinkMesh$Mesh", name := "lampsOn", desc := "()I" } : Jvm.MethodName) ({ cls := "BlinkMesh$Mesh", name := "lampsOn", desc := "()I" } : Jvm.MethodName)) ∈ gtbl := gw 212 (by decide +kernel) rfl
theorem k213 : (Jvm.Cond.code ({ cls := "BlinkMesh$Mesh", name := "lampsOn", desc := "()I" } : Jvm.MethodName) prog_3_method_12_code (1 : Nat) (Option.some Jvm.ClassFile.FieldType.int)) ∈ gtbl := gw 213 (by decide +kernel) rfl
theorem k214 : (Jvm.Cond.methodLink "BlinkMeshLaw" (28 : Nat) ({ cls := "BlinkMesh", name := "link", desc := "(IIZ)I" } : Jvm.MethodName)) ∈ gtbl := gw 214 (by decide +kernel) rfl
theorem k215 : (Jvm.Cond.instanceMethod ({ cls := "BlinkMesh", name := "link", desc := "(IIZ)I" } : Jvm.MethodName)) ∈ gtbl := gw 215 (by decide +kernel) rfl
theorem k216 : (Jvm.Cond.selects "BlinkMesh" ({ cls := "BlinkMesh", name := "link", desc := "(IIZ)I" } : Jvm.MethodName) ({ cls := "BlinkMesh", name := "link", desc := "(IIZ)I" } : Jvm.MethodName)) ∈ gtbl := gw 216 (by decide +kernel) rfl
theorem k217 : (Jvm.Cond.code ({ cls := "BlinkMesh", name := "link", desc := "(IIZ)I" } : Jvm.MethodName) prog_1_method_5_code (4 : Nat) (Option.some Jvm.ClassFile.FieldType.int)) ∈ gtbl := gw 217 (by decide +kernel) rfl
theorem k218 : (Jvm.Cond.methodLink "BlinkMesh" (76 : Nat) ({ cls := "BlinkMesh$Mesh", name := "isLinked", desc := "(II)Z" } : Jvm.MethodName)) ∈ gtbl := gw 218 (by decide +kernel) rfl
theorem k219 : (Jvm.Cond.instanceMethod ({ cls := "BlinkMesh$Mesh", name := "isLinked", desc := "(II)Z" } : Jvm.MethodName)) ∈ gtbl := gw 219 (by decide +kernel) rfl
theorem k220 : (Jvm.Cond.selects "BlinkMesh$Mesh" ({ cls := "BlinkMesh$Mesh", name := "isLinked", desc := "(II)Z" } : Jvm.MethodName) ({ cls := "BlinkMesh$Mesh", name := "isLinked", desc := "(II)Z" } : Jvm.MethodName)) ∈ gtbl := gw 220 (by decide +kernel) rfl
theorem k221 : (Jvm.Cond.code ({ cls := "BlinkMesh$Mesh", name := "isLinked", desc := "(II)Z" } : Jvm.MethodName) prog_3_method_5_code (3 : Nat) (Option.some Jvm.ClassFile.FieldType.boolean)) ∈ gtbl := gw 221 (by decide +kernel) rfl
theorem k222 : (Jvm.Cond.methodLink "BlinkMesh" (80 : Nat) ({ cls := "BlinkMesh$Mesh", name := "changeLink", desc := "(IIZ)V" } : Jvm.MethodName)) ∈ gtbl := gw 222 (by decide +kernel) rfl
theorem k223 : (Jvm.Cond.instanceMethod ({ cls := "BlinkMesh$Mesh", name := "changeLink", desc := "(IIZ)V" } : Jvm.MethodName)) ∈ gtbl := gw 223 (by decide +kernel) rfl
theorem k224 : (Jvm.Cond.selects "BlinkMesh$Mesh" ({ cls := "BlinkMesh$Mesh", name := "changeLink", desc := "(IIZ)V" } : Jvm.MethodName) ({ cls := "BlinkMesh$Mesh", name := "changeLink", desc := "(IIZ)V" } : Jvm.MethodName)) ∈ gtbl := gw 224 (by decide +kernel) rfl
theorem k225 : (Jvm.Cond.code ({ cls := "BlinkMesh$Mesh", name := "changeLink", desc := "(IIZ)V" } : Jvm.MethodName) prog_3_method_19_code (4 : Nat) (Option.none : Option Jvm.ClassFile.FieldType)) ∈ gtbl := gw 225 (by decide +kernel) rfl
theorem k226 : (Jvm.Cond.methodLink "BlinkMesh" (84 : Nat) ({ cls := "BlinkMesh$Mesh", name := "links", desc := "()I" } : Jvm.MethodName)) ∈ gtbl := gw 226 (by decide +kernel) rfl
theorem k227 : (Jvm.Cond.instanceMethod ({ cls := "BlinkMesh$Mesh", name := "links", desc := "()I" } : Jvm.MethodName)) ∈ gtbl := gw 227 (by decide +kernel) rfl
theorem k228 : (Jvm.Cond.selects "BlinkMesh$Mesh" ({ cls := "BlinkMesh$Mesh", name := "links", desc := "()I" } : Jvm.MethodName) ({ cls := "BlinkMesh$Mesh", name := "links", desc := "()I" } : Jvm.MethodName)) ∈ gtbl := gw 228 (by decide +kernel) rfl
theorem k229 : (Jvm.Cond.code ({ cls := "BlinkMesh$Mesh", name := "links", desc := "()I" } : Jvm.MethodName) prog_3_method_13_code (3 : Nat) (Option.some Jvm.ClassFile.FieldType.int)) ∈ gtbl := gw 229 (by decide +kernel) rfl
theorem k230 : (Jvm.Cond.methodLink "BlinkMeshLaw" (33 : Nat) ({ cls := "BlinkMesh", name := "tune", desc := "(III)I" } : Jvm.MethodName)) ∈ gtbl := gw 230 (by decide +kernel) rfl
theorem k231 : (Jvm.Cond.instanceMethod ({ cls := "BlinkMesh", name := "tune", desc := "(III)I" } : Jvm.MethodName)) ∈ gtbl := gw 231 (by decide +kernel) rfl
theorem k232 : (Jvm.Cond.selects "BlinkMesh" ({ cls := "BlinkMesh", name := "tune", desc := "(III)I" } : Jvm.MethodName) ({ cls := "BlinkMesh", name := "tune", desc := "(III)I" } : Jvm.MethodName)) ∈ gtbl := gw 232 (by decide +kernel) rfl
theorem k233 : (Jvm.Cond.code ({ cls := "BlinkMesh", name := "tune", desc := "(III)I" } : Jvm.MethodName) prog_1_method_6_code (4 : Nat) (Option.some Jvm.ClassFile.FieldType.int)) ∈ gtbl := gw 233 (by decide +kernel) rfl
theorem k234 : (Jvm.Cond.methodLink "BlinkMesh" (87 : Nat) ({ cls := "BlinkMesh$Mesh", name := "retune", desc := "(III)I" } : Jvm.MethodName)) ∈ gtbl := gw 234 (by decide +kernel) rfl
theorem k235 : (Jvm.Cond.instanceMethod ({ cls := "BlinkMesh$Mesh", name := "retune", desc := "(III)I" } : Jvm.MethodName)) ∈ gtbl := gw 235 (by decide +kernel) rfl
theorem k236 : (Jvm.Cond.selects "BlinkMesh$Mesh" ({ cls := "BlinkMesh$Mesh", name := "retune", desc := "(III)I" } : Jvm.MethodName) ({ cls := "BlinkMesh$Mesh", name := "retune", desc := "(III)I" } : Jvm.MethodName)) ∈ gtbl := gw 236 (by decide +kernel) rfl
theorem k237 : (Jvm.Cond.code ({ cls := "BlinkMesh$Mesh", name := "retune", desc := "(III)I" } : Jvm.MethodName) prog_3_method_20_code (5 : Nat) (Option.some Jvm.ClassFile.FieldType.int)) ∈ gtbl := gw 237 (by decide +kernel) rfl
theorem k238 : (Jvm.Cond.methodLink "BlinkMeshLaw" (38 : Nat) ({ cls := "BlinkMesh", name := "set", desc := "(II)I" } : Jvm.MethodName)) ∈ gtbl := gw 238 (by decide +kernel) rfl
theorem k239 : (Jvm.Cond.instanceMethod ({ cls := "BlinkMesh", name := "set", desc := "(II)I" } : Jvm.MethodName)) ∈ gtbl := gw 239 (by decide +kernel) rfl
theorem k240 : (Jvm.Cond.selects "BlinkMesh" ({ cls := "BlinkMesh", name := "set", desc := "(II)I" } : Jvm.MethodName) ({ cls := "BlinkMesh", name := "set", desc := "(II)I" } : Jvm.MethodName)) ∈ gtbl := gw 240 (by decide +kernel) rfl
theorem k241 : (Jvm.Cond.code ({ cls := "BlinkMesh", name := "set", desc := "(II)I" } : Jvm.MethodName) prog_1_method_7_code (3 : Nat) (Option.some Jvm.ClassFile.FieldType.int)) ∈ gtbl := gw 241 (by decide +kernel) rfl
theorem k242 : (Jvm.Cond.fieldLink "BlinkMesh" (91 : Nat) "BlinkMesh" "LEAST_SETTING" "[I") ∈ gtbl := gw 242 (by decide +kernel) rfl
theorem k244 : (Jvm.Cond.fieldLink "BlinkMesh" (95 : Nat) "BlinkMesh" "GREATEST_SETTING" "[I") ∈ gtbl := gw 244 (by decide +kernel) rfl
theorem k246 : (Jvm.Cond.methodLink "BlinkMesh" (98 : Nat) ({ cls := "BlinkMesh$Mesh", name := "setting", desc := "(I)I" } : Jvm.MethodName)) ∈ gtbl := gw 246 (by decide +kernel) rfl
theorem k247 : (Jvm.Cond.instanceMethod ({ cls := "BlinkMesh$Mesh", name := "setting", desc := "(I)I" } : Jvm.MethodName)) ∈ gtbl := gw 247 (by decide +kernel) rfl
theorem k248 : (Jvm.Cond.selects "BlinkMesh$Mesh" ({ cls := "BlinkMesh$Mesh", name := "setting", desc := "(I)I" } : Jvm.MethodName) ({ cls := "BlinkMesh$Mesh", name := "setting", desc := "(I)I" } : Jvm.MethodName)) ∈ gtbl := gw 248 (by decide +kernel) rfl
theorem k249 : (Jvm.Cond.code ({ cls := "BlinkMesh$Mesh", name := "setting", desc := "(I)I" } : Jvm.MethodName) prog_3_method_8_code (2 : Nat) (Option.some Jvm.ClassFile.FieldType.int)) ∈ gtbl := gw 249 (by decide +kernel) rfl
theorem k250 : (Jvm.Cond.methodLink "BlinkMesh" (101 : Nat) ({ cls := "BlinkMesh$Mesh", name := "changeSetting", desc := "(II)I" } : Jvm.MethodName)) ∈ gtbl := gw 250 (by decide +kernel) rfl
theorem k251 : (Jvm.Cond.instanceMethod ({ cls := "BlinkMesh$Mesh", name := "changeSetting", desc := "(II)I" } : Jvm.MethodName)) ∈ gtbl := gw 251 (by decide +kernel) rfl
theorem k252 : (Jvm.Cond.selects "BlinkMesh$Mesh" ({ cls := "BlinkMesh$Mesh", name := "changeSetting", desc := "(II)I" } : Jvm.MethodName) ({ cls := "BlinkMesh$Mesh", name := "changeSetting", desc := "(II)I" } : Jvm.MethodName)) ∈ gtbl := gw 252 (by decide +kernel) rfl
theorem k253 : (Jvm.Cond.code ({ cls := "BlinkMesh$Mesh", name := "changeSetting", desc := "(II)I" } : Jvm.MethodName) prog_3_method_21_code (4 : Nat) (Option.some Jvm.ClassFile.FieldType.int)) ∈ gtbl := gw 253 (by decide +kernel) rfl
theorem k254 : (Jvm.Cond.methodLink "BlinkMesh$Mesh" (89 : Nat) ({ cls := "BlinkMesh$Mesh", name := "fitPhases", desc := "()V" } : Jvm.MethodName)) ∈ gtbl := gw 254 (by decide +kernel) rfl
theorem k255 : (Jvm.Cond.instanceMethod ({ cls := "BlinkMesh$Mesh", name := "fitPhases", desc := "()V" } : Jvm.MethodName)) ∈ gtbl := gw 255 (by decide +kernel) rfl
theorem k256 : (Jvm.Cond.selects "BlinkMesh$Mesh" ({ cls := "BlinkMesh$Mesh", name := "fitPhases", desc := "()V" } : Jvm.MethodName) ({ cls := "BlinkMesh$Mesh", name := "fitPhases", desc := "()V" } : Jvm.MethodName)) ∈ gtbl := gw 256 (by decide +kernel) rfl
theorem k257 : (Jvm.Cond.code ({ cls := "BlinkMesh$Mesh", name := "fitPhases", desc := "()V" } : Jvm.MethodName) prog_3_method_22_code (2 : Nat) (Option.none : Option Jvm.ClassFile.FieldType)) ∈ gtbl := gw 257 (by decide +kernel) rfl
theorem k258 : (Jvm.Cond.methodLink "BlinkMesh$Mesh" (92 : Nat) ({ cls := "BlinkMesh$Mesh", name := "fullPhase", desc := "()I" } : Jvm.MethodName)) ∈ gtbl := gw 258 (by decide +kernel) rfl
theorem k260 : (Jvm.Cond.instanceMethod ({ cls := "BlinkMesh$Mesh", name := "fullPhase", desc := "()I" } : Jvm.MethodName)) ∈ gtbl := gw 260 (by decide +kernel) rfl
theorem k261 : (Jvm.Cond.code ({ cls := "BlinkMesh$Mesh", name := "fullPhase", desc := "()I" } : Jvm.MethodName) prog_3_method_23_code (1 : Nat) (Option.some Jvm.ClassFile.FieldType.int)) ∈ gtbl := gw 261 (by decide +kernel) rfl
theorem k262 : (Jvm.Cond.methodLink "BlinkMesh$Mesh" (96 : Nat) ({ cls := "java/lang/Math", name := "min", desc := "(II)I" } : Jvm.MethodName)) ∈ gtbl := gw 262 (by decide +kernel) rfl
theorem k263 : (Jvm.Cond.static ({ cls := "java/lang/Math", name := "min", desc := "(II)I" } : Jvm.MethodName)) ∈ gtbl := gw 263 (by decide +kernel) rfl
theorem k264 : (Jvm.Cond.code ({ cls := "java/lang/Math", name := "min", desc := "(II)I" } : Jvm.MethodName) prog_9_method_69_code (2 : Nat) (Option.some Jvm.ClassFile.FieldType.int)) ∈ gtbl := gw 264 (by decide +kernel) rfl
theorem k265 : (Jvm.Cond.methodLink "BlinkMeshLaw" (42 : Nat) ({ cls := "BlinkMesh", name := "pass", desc := "(I)I" } : Jvm.MethodName)) ∈ gtbl := gw 265 (by decide +kernel) rfl
theorem k266 : (Jvm.Cond.instanceMethod ({ cls := "BlinkMesh", name := "pass", desc := "(I)I" } : Jvm.MethodName)) ∈ gtbl := gw 266 (by decide +kernel) rfl
theorem k267 : (Jvm.Cond.selects "BlinkMesh" ({ cls := "BlinkMesh", name := "pass", desc := "(I)I" } : Jvm.MethodName) ({ cls := "BlinkMesh", name := "pass", desc := "(I)I" } : Jvm.MethodName)) ∈ gtbl := gw 267 (by decide +kernel) rfl
theorem k268 : (Jvm.Cond.code ({ cls := "BlinkMesh", name := "pass", desc := "(I)I" } : Jvm.MethodName) prog_1_method_8_code (3 : Nat) (Option.some Jvm.ClassFile.FieldType.int)) ∈ gtbl := gw 268 (by decide +kernel) rfl
theorem k269 : (Jvm.Cond.methodLink "BlinkMesh" (105 : Nat) ({ cls := "BlinkMesh$Mesh", name := "tickNumber", desc := "()I" } : Jvm.MethodName)) ∈ gtbl := gw 269 (by decide +kernel) rfl
theorem k270 : (Jvm.Cond.instanceMethod ({ cls := "BlinkMesh$Mesh", name := "tickNumber", desc := "()I" } : Jvm.MethodName)) ∈ gtbl := gw 270 (by decide +kernel) rfl
theorem k271 : (Jvm.Cond.selects "BlinkMesh$Mesh" ({ cls := "BlinkMesh$Mesh", name := "tickNumber", desc := "()I" } : Jvm.MethodName) ({ cls := "BlinkMesh$Mesh", name := "tickNumber", desc := "()I" } : Jvm.MethodName)) ∈ gtbl := gw 271 (by decide +kernel) rfl
theorem k272 : (Jvm.Cond.code ({ cls := "BlinkMesh$Mesh", name := "tickNumber", desc := "()I" } : Jvm.MethodName) prog_3_method_9_code (1 : Nat) (Option.some Jvm.ClassFile.FieldType.int)) ∈ gtbl := gw 272 (by decide +kernel) rfl
theorem k273 : (Jvm.Cond.constant "BlinkMesh" (108 : Nat) (99999 : Int32)) ∈ gtbl := gw 273 (by decide +kernel) rfl
theorem k274 : (Jvm.Cond.methodLink "BlinkMesh" (109 : Nat) ({ cls := "BlinkMesh$Mesh", name := "allBlinks", desc := "()I" } : Jvm.MethodName)) ∈ gtbl := gw 274 (by decide +kernel) rfl
theorem k275 : (Jvm.Cond.instanceMethod ({ cls := "BlinkMesh$Mesh", name := "allBlinks", desc := "()I" } : Jvm.MethodName)) ∈ gtbl := gw 275 (by decide +kernel) rfl
theorem k276 : (Jvm.Cond.selects "BlinkMesh$Mesh" ({ cls := "BlinkMesh$Mesh", name := "allBlinks", desc := "()I" } : Jvm.MethodName) ({ cls := "BlinkMesh$Mesh", name := "allBlinks", desc := "()I" } : Jvm.MethodName)) ∈ gtbl := gw 276 (by decide +kernel) rfl
theorem k277 : (Jvm.Cond.code ({ cls := "BlinkMesh$Mesh", name := "allBlinks", desc := "()I" } : Jvm.MethodName) prog_3_method_10_code (1 : Nat) (Option.some Jvm.ClassFile.FieldType.int)) ∈ gtbl := gw 277 (by decide +kernel) rfl
theorem k278 : (Jvm.Cond.methodLink "BlinkMesh" (112 : Nat) ({ cls := "BlinkMesh$Mesh", name := "tickOften", desc := "(I)V" } : Jvm.MethodName)) ∈ gtbl := gw 278 (by decide +kernel) rfl
theorem k279 : (Jvm.Cond.instanceMethod ({ cls := "BlinkMesh$Mesh", name := "tickOften", desc := "(I)V" } : Jvm.MethodName)) ∈ gtbl := gw 279 (by decide +kernel) rfl
theorem k280 : (Jvm.Cond.selects "BlinkMesh$Mesh" ({ cls := "BlinkMesh$Mesh", name := "tickOften", desc := "(I)V" } : Jvm.MethodName) ({ cls := "BlinkMesh$Mesh", name := "tickOften", desc := "(I)V" } : Jvm.MethodName)) ∈ gtbl := gw 280 (by decide +kernel) rfl
theorem k281 : (Jvm.Cond.code ({ cls := "BlinkMesh$Mesh", name := "tickOften", desc := "(I)V" } : Jvm.MethodName) prog_3_method_24_code (3 : Nat) (Option.none : Option Jvm.ClassFile.FieldType)) ∈ gtbl := gw 281 (by decide +kernel) rfl
theorem k282 : (Jvm.Cond.methodLink "BlinkMesh$Mesh" (102 : Nat) ({ cls := "BlinkMesh$Mesh", name := "tickOnce", desc := "()I" } : Jvm.MethodName)) ∈ gtbl := gw 282 (by decide +kernel) rfl
theorem k283 : (Jvm.Cond.instanceMethod ({ cls := "BlinkMesh$Mesh", name := "tickOnce", desc := "()I" } : Jvm.MethodName)) ∈ gtbl := gw 283 (by decide +kernel) rfl
theorem k284 : (Jvm.Cond.selects "BlinkMesh$Mesh" ({ cls := "BlinkMesh$Mesh", name := "tickOnce", desc := "()I" } : Jvm.MethodName) ({ cls := "BlinkMesh$Mesh", name := "tickOnce", desc := "()I" } : Jvm.MethodName)) ∈ gtbl := gw 284 (by decide +kernel) rfl
theorem k285 : (Jvm.Cond.code ({ cls := "BlinkMesh$Mesh", name := "tickOnce", desc := "()I" } : Jvm.MethodName) prog_3_method_25_code (4 : Nat) (Option.some Jvm.ClassFile.FieldType.int)) ∈ gtbl := gw 285 (by decide +kernel) rfl
theorem k286 : (Jvm.Cond.methodLink "BlinkMesh$Mesh" (105 : Nat) ({ cls := "BlinkMesh$Mesh", name := "grow", desc := "()I" } : Jvm.MethodName)) ∈ gtbl := gw 286 (by decide +kernel) rfl
theorem k288 : (Jvm.Cond.instanceMethod ({ cls := "BlinkMesh$Mesh", name := "grow", desc := "()I" } : Jvm.MethodName)) ∈ gtbl := gw 288 (by decide +kernel) rfl
theorem k289 : (Jvm.Cond.code ({ cls := "BlinkMesh$Mesh", name := "grow", desc := "()I" } : Jvm.MethodName) prog_3_method_26_code (4 : Nat) (Option.some Jvm.ClassFile.FieldType.int)) ∈ gtbl := gw 289 (by decide +kernel) rfl
theorem k290 : (Jvm.Cond.methodLink "BlinkMesh$Mesh" (108 : Nat) ({ cls := "BlinkMesh$Mesh", name := "blink", desc := "(I)V" } : Jvm.MethodName)) ∈ gtbl := gw 290 (by decide +kernel) rfl
theorem k292 : (Jvm.Cond.instanceMethod ({ cls := "BlinkMesh$Mesh", name := "blink", desc := "(I)V" } : Jvm.MethodName)) ∈ gtbl := gw 292 (by decide +kernel) rfl
theorem k293 : (Jvm.Cond.code ({ cls := "BlinkMesh$Mesh", name := "blink", desc := "(I)V" } : Jvm.MethodName) prog_3_method_27_code (3 : Nat) (Option.none : Option Jvm.ClassFile.FieldType)) ∈ gtbl := gw 293 (by decide +kernel) rfl
theorem k294 : (Jvm.Cond.methodLink "BlinkMesh$Mesh" (112 : Nat) ({ cls := "BlinkMesh$Mesh", name := "pushFrom", desc := "(II)I" } : Jvm.MethodName)) ∈ gtbl := gw 294 (by decide +kernel) rfl
theorem k296 : (Jvm.Cond.instanceMethod ({ cls := "BlinkMesh$Mesh", name := "pushFrom", desc := "(II)I" } : Jvm.MethodName)) ∈ gtbl := gw 296 (by decide +kernel) rfl
theorem k297 : (Jvm.Cond.code ({ cls := "BlinkMesh$Mesh", name := "pushFrom", desc := "(II)I" } : Jvm.MethodName) prog_3_method_28_code (5 : Nat) (Option.some Jvm.ClassFile.FieldType.int)) ∈ gtbl := gw 297 (by decide +kernel) rfl
theorem k298 : (Jvm.Cond.methodLink "BlinkMesh$Mesh" (118 : Nat) ({ cls := "BlinkMesh$Mesh", name := "pushAll", desc := "(I)I" } : Jvm.MethodName)) ∈ gtbl := gw 298 (by decide +kernel) rfl
theorem k300 : (Jvm.Cond.instanceMethod ({ cls := "BlinkMesh$Mesh", name := "pushAll", desc := "(I)I" } : Jvm.MethodName)) ∈ gtbl := gw 300 (by decide +kernel) rfl
theorem k301 : (Jvm.Cond.code ({ cls := "BlinkMesh$Mesh", name := "pushAll", desc := "(I)I" } : Jvm.MethodName) prog_3_method_29_code (6 : Nat) (Option.some Jvm.ClassFile.FieldType.int)) ∈ gtbl := gw 301 (by decide +kernel) rfl
theorem k302 : (Jvm.Cond.methodLink "BlinkMesh$Mesh" (115 : Nat) ({ cls := "BlinkMesh$Mesh", name := "account", desc := "(I)V" } : Jvm.MethodName)) ∈ gtbl := gw 302 (by decide +kernel) rfl
theorem k304 : (Jvm.Cond.instanceMethod ({ cls := "BlinkMesh$Mesh", name := "account", desc := "(I)V" } : Jvm.MethodName)) ∈ gtbl := gw 304 (by decide +kernel) rfl
theorem k305 : (Jvm.Cond.code ({ cls := "BlinkMesh$Mesh", name := "account", desc := "(I)V" } : Jvm.MethodName) prog_3_method_30_code (2 : Nat) (Option.none : Option Jvm.ClassFile.FieldType)) ∈ gtbl := gw 305 (by decide +kernel) rfl
theorem k306 : (Jvm.Cond.methodLink "BlinkMesh$Mesh" (121 : Nat) ({ cls := "java/lang/Math", name := "max", desc := "(II)I" } : Jvm.MethodName)) ∈ gtbl := gw 306 (by decide +kernel) rfl
theorem k307 : (Jvm.Cond.static ({ cls := "java/lang/Math", name := "max", desc := "(II)I" } : Jvm.MethodName)) ∈ gtbl := gw 307 (by decide +kernel) rfl
theorem k308 : (Jvm.Cond.code ({ cls := "java/lang/Math", name := "max", desc := "(II)I" } : Jvm.MethodName) prog_9_method_65_code (2 : Nat) (Option.some Jvm.ClassFile.FieldType.int)) ∈ gtbl := gw 308 (by decide +kernel) rfl
theorem k309 : (Jvm.Cond.methodLink "BlinkMeshLaw" (46 : Nat) ({ cls := "BlinkMesh", name := "type", desc := "(C)I" } : Jvm.MethodName)) ∈ gtbl := gw 309 (by decide +kernel) rfl
theorem k310 : (Jvm.Cond.instanceMethod ({ cls := "BlinkMesh", name := "type", desc := "(C)I" } : Jvm.MethodName)) ∈ gtbl := gw 310 (by decide +kernel) rfl
theorem k311 : (Jvm.Cond.selects "BlinkMesh" ({ cls := "BlinkMesh", name := "type", desc := "(C)I" } : Jvm.MethodName) ({ cls := "BlinkMesh", name := "type", desc := "(C)I" } : Jvm.MethodName)) ∈ gtbl := gw 311 (by decide +kernel) rfl
theorem k312 : (Jvm.Cond.code ({ cls := "BlinkMesh", name := "type", desc := "(C)I" } : Jvm.MethodName) prog_1_method_9_code (2 : Nat) (Option.some Jvm.ClassFile.FieldType.int)) ∈ gtbl := gw 312 (by decide +kernel) rfl
theorem k313 : (Jvm.Cond.methodLink "BlinkMesh" (116 : Nat) ({ cls := "BlinkMesh$MeshText", name := "isFull", desc := "()Z" } : Jvm.MethodName)) ∈ gtbl := gw 313 (by decide +kernel) rfl
theorem k314 : (Jvm.Cond.instanceMethod ({ cls := "BlinkMesh$MeshText", name := "isFull", desc := "()Z" } : Jvm.MethodName)) ∈ gtbl := gw 314 (by decide +kernel) rfl
theorem k315 : (Jvm.Cond.selects "BlinkMesh$MeshText" ({ cls := "BlinkMesh$MeshText", name := "isFull", desc := "()Z" } : Jvm.MethodName) ({ cls := "BlinkMesh$MeshText", name := "isFull", desc := "()Z" } : Jvm.MethodName)) ∈ gtbl := gw 315 (by decide +kernel) rfl
theorem k316 : (Jvm.Cond.code ({ cls := "BlinkMesh$MeshText", name := "isFull", desc := "()Z" } : Jvm.MethodName) prog_4_method_4_code (1 : Nat) (Option.some Jvm.ClassFile.FieldType.boolean)) ∈ gtbl := gw 316 (by decide +kernel) rfl
theorem k317 : (Jvm.Cond.methodLink "BlinkMesh" (120 : Nat) ({ cls := "BlinkMesh$MeshText", name := "append", desc := "(C)V" } : Jvm.MethodName)) ∈ gtbl := gw 317 (by decide +kernel) rfl
theorem k318 : (Jvm.Cond.instanceMethod ({ cls := "BlinkMesh$MeshText", name := "append", desc := "(C)V" } : Jvm.MethodName)) ∈ gtbl := gw 318 (by decide +kernel) rfl
theorem k319 : (Jvm.Cond.selects "BlinkMesh$MeshText" ({ cls := "BlinkMesh$MeshText", name := "append", desc := "(C)V" } : Jvm.MethodName) ({ cls := "BlinkMesh$MeshText", name := "append", desc := "(C)V" } : Jvm.MethodName)) ∈ gtbl := gw 319 (by decide +kernel) rfl
theorem k320 : (Jvm.Cond.code ({ cls := "BlinkMesh$MeshText", name := "append", desc := "(C)V" } : Jvm.MethodName) prog_4_method_5_code (2 : Nat) (Option.none : Option Jvm.ClassFile.FieldType)) ∈ gtbl := gw 320 (by decide +kernel) rfl
theorem k321 : (Jvm.Cond.methodLink "BlinkMesh" (124 : Nat) ({ cls := "BlinkMesh$MeshText", name := "length", desc := "()I" } : Jvm.MethodName)) ∈ gtbl := gw 321 (by decide +kernel) rfl
theorem k322 : (Jvm.Cond.instanceMethod ({ cls := "BlinkMesh$MeshText", name := "length", desc := "()I" } : Jvm.MethodName)) ∈ gtbl := gw 322 (by decide +kernel) rfl
theorem k323 : (Jvm.Cond.selects "BlinkMesh$MeshText" ({ cls := "BlinkMesh$MeshText", name := "length", desc := "()I" } : Jvm.MethodName) ({ cls := "BlinkMesh$MeshText", name := "length", desc := "()I" } : Jvm.MethodName)) ∈ gtbl := gw 323 (by decide +kernel) rfl
theorem k324 : (Jvm.Cond.code ({ cls := "BlinkMesh$MeshText", name := "length", desc := "()I" } : Jvm.MethodName) prog_4_method_2_code (1 : Nat) (Option.some Jvm.ClassFile.FieldType.int)) ∈ gtbl := gw 324 (by decide +kernel) rfl
theorem k325 : (Jvm.Cond.methodLink "BlinkMeshLaw" (51 : Nat) ({ cls := "BlinkMesh", name := "clearText", desc := "()I" } : Jvm.MethodName)) ∈ gtbl := gw 325 (by decide +kernel) rfl
theorem k326 : (Jvm.Cond.instanceMethod ({ cls := "BlinkMesh", name := "clearText", desc := "()I" } : Jvm.MethodName)) ∈ gtbl := gw 326 (by decide +kernel) rfl
theorem k327 : (Jvm.Cond.selects "BlinkMesh" ({ cls := "BlinkMesh", name := "clearText", desc := "()I" } : Jvm.MethodName) ({ cls := "BlinkMesh", name := "clearText", desc := "()I" } : Jvm.MethodName)) ∈ gtbl := gw 327 (by decide +kernel) rfl
theorem k328 : (Jvm.Cond.code ({ cls := "BlinkMesh", name := "clearText", desc := "()I" } : Jvm.MethodName) prog_1_method_10_code (2 : Nat) (Option.some Jvm.ClassFile.FieldType.int)) ∈ gtbl := gw 328 (by decide +kernel) rfl
theorem k329 : (Jvm.Cond.methodLink "BlinkMesh" (127 : Nat) ({ cls := "BlinkMesh$MeshText", name := "empty", desc := "()V" } : Jvm.MethodName)) ∈ gtbl := gw 329 (by decide +kernel) rfl
theorem k330 : (Jvm.Cond.instanceMethod ({ cls := "BlinkMesh$MeshText", name := "empty", desc := "()V" } : Jvm.MethodName)) ∈ gtbl := gw 330 (by decide +kernel) rfl
theorem k331 : (Jvm.Cond.selects "BlinkMesh$MeshText" ({ cls := "BlinkMesh$MeshText", name := "empty", desc := "()V" } : Jvm.MethodName) ({ cls := "BlinkMesh$MeshText", name := "empty", desc := "()V" } : Jvm.MethodName)) ∈ gtbl := gw 331 (by decide +kernel) rfl
theorem k332 : (Jvm.Cond.code ({ cls := "BlinkMesh$MeshText", name := "empty", desc := "()V" } : Jvm.MethodName) prog_4_method_6_code (1 : Nat) (Option.none : Option Jvm.ClassFile.FieldType)) ∈ gtbl := gw 332 (by decide +kernel) rfl
theorem k333 : (Jvm.Cond.methodLink "BlinkMeshLaw" (56 : Nat) ({ cls := "BlinkMesh", name := "readMesh", desc := "()I" } : Jvm.MethodName)) ∈ gtbl := gw 333 (by decide +kernel) rfl
theorem k334 : (Jvm.Cond.instanceMethod ({ cls := "BlinkMesh", name := "readMesh", desc := "()I" } : Jvm.MethodName)) ∈ gtbl := gw 334 (by decide +kernel) rfl
theorem k335 : (Jvm.Cond.selects "BlinkMesh" ({ cls := "BlinkMesh", name := "readMesh", desc := "()I" } : Jvm.MethodName) ({ cls := "BlinkMesh", name := "readMesh", desc := "()I" } : Jvm.MethodName)) ∈ gtbl := gw 335 (by decide +kernel) rfl
theorem k336 : (Jvm.Cond.code ({ cls := "BlinkMesh", name := "readMesh", desc := "()I" } : Jvm.MethodName) prog_1_method_11_code (1 : Nat) (Option.some Jvm.ClassFile.FieldType.int)) ∈ gtbl := gw 336 (by decide +kernel) rfl
theorem k337 : (Jvm.Cond.methodLink "BlinkMesh" (130 : Nat) ({ cls := "BlinkMesh$MeshText", name := "parse", desc := "()Z" } : Jvm.MethodName)) ∈ gtbl := gw 337 (by decide +kernel) rfl
theorem k338 : (Jvm.Cond.instanceMethod ({ cls := "BlinkMesh$MeshText", name := "parse", desc := "()Z" } : Jvm.MethodName)) ∈ gtbl := gw 338 (by decide +kernel) rfl
theorem k339 : (Jvm.Cond.selects "BlinkMesh$MeshText" ({ cls := "BlinkMesh$MeshText", name := "parse", desc := "()Z" } : Jvm.MethodName) ({ cls := "BlinkMesh$MeshText", name := "parse", desc := "()Z" } : Jvm.MethodName)) ∈ gtbl := gw 339 (by decide +kernel) rfl
theorem k340 : (Jvm.Cond.code ({ cls := "BlinkMesh$MeshText", name := "parse", desc := "()Z" } : Jvm.MethodName) prog_4_method_8_code (2 : Nat) (Option.some Jvm.ClassFile.FieldType.boolean)) ∈ gtbl := gw 340 (by decide +kernel) rfl
theorem k341 : (Jvm.Cond.methodLink "BlinkMesh$MeshText" (54 : Nat) ({ cls := "BlinkMesh$MeshText", name := "parseLamps", desc := "()Z" } : Jvm.MethodName)) ∈ gtbl := gw 341 (by decide +kernel) rfl
theorem k343 : (Jvm.Cond.instanceMethod ({ cls := "BlinkMesh$MeshText", name := "parseLamps", desc := "()Z" } : Jvm.MethodName)) ∈ gtbl := gw 343 (by decide +kernel) rfl
theorem k344 : (Jvm.Cond.code ({ cls := "BlinkMesh$MeshText", name := "parseLamps", desc := "()Z" } : Jvm.MethodName) prog_4_method_9_code (2 : Nat) (Option.some Jvm.ClassFile.FieldType.boolean)) ∈ gtbl := gw 344 (by decide +kernel) rfl
theorem k345 : (Jvm.Cond.methodLink "BlinkMesh$MeshText" (69 : Nat) ({ cls := "BlinkMesh$MeshText", name := "parseLamp", desc := "(I)Z" } : Jvm.MethodName)) ∈ gtbl := gw 345 (by decide +kernel) rfl
theorem k347 : (Jvm.Cond.instanceMethod ({ cls := "BlinkMesh$MeshText", name := "parseLamp", desc := "(I)Z" } : Jvm.MethodName)) ∈ gtbl := gw 347 (by decide +kernel) rfl
theorem k348 : (Jvm.Cond.code ({ cls := "BlinkMesh$MeshText", name := "parseLamp", desc := "(I)Z" } : Jvm.MethodName) prog_4_method_10_code (2 : Nat) (Option.some Jvm.ClassFile.FieldType.boolean)) ∈ gtbl := gw 348 (by decide +kernel) rfl
theorem k349 : (Jvm.Cond.methodLink "BlinkMesh$MeshText" (73 : Nat) ({ cls := "BlinkMesh$MeshText", name := "parseNumber", desc := "(II)I" } : Jvm.MethodName)) ∈ gtbl := gw 349 (by decide +kernel) rfl
theorem k351 : (Jvm.Cond.instanceMethod ({ cls := "BlinkMesh$MeshText", name := "parseNumber", desc := "(II)I" } : Jvm.MethodName)) ∈ gtbl := gw 351 (by decide +kernel) rfl
theorem k352 : (Jvm.Cond.code ({ cls := "BlinkMesh$MeshText", name := "parseNumber", desc := "(II)I" } : Jvm.MethodName) prog_4_method_11_code (7 : Nat) (Option.some Jvm.ClassFile.FieldType.int)) ∈ gtbl := gw 352 (by decide +kernel) rfl
theorem k353 : (Jvm.Cond.methodLink "BlinkMesh$MeshText" (58 : Nat) ({ cls := "BlinkMesh$MeshText", name := "current", desc := "()I" } : Jvm.MethodName)) ∈ gtbl := gw 353 (by decide +kernel) rfl
theorem k355 : (Jvm.Cond.instanceMethod ({ cls := "BlinkMesh$MeshText", name := "current", desc := "()I" } : Jvm.MethodName)) ∈ gtbl := gw 355 (by decide +kernel) rfl
theorem k356 : (Jvm.Cond.code ({ cls := "BlinkMesh$MeshText", name := "current", desc := "()I" } : Jvm.MethodName) prog_4_method_16_code (1 : Nat) (Option.some Jvm.ClassFile.FieldType.int)) ∈ gtbl := gw 356 (by decide +kernel) rfl
theorem k357 : (Jvm.Cond.methodLink "BlinkMesh$MeshText" (77 : Nat) ({ cls := "BlinkMesh$MeshText", name := "begins", desc := "(III)Z" } : Jvm.MethodName)) ∈ gtbl := gw 357 (by decide +kernel) rfl
theorem k358 : (Jvm.Cond.static ({ cls := "BlinkMesh$MeshText", name := "begins", desc := "(III)Z" } : Jvm.MethodName)) ∈ gtbl := gw 358 (by decide +kernel) rfl
theorem k359 : (Jvm.Cond.code ({ cls := "BlinkMesh$MeshText", name := "begins", desc := "(III)Z" } : Jvm.MethodName) prog_4_method_12_code (6 : Nat) (Option.some Jvm.ClassFile.FieldType.boolean)) ∈ gtbl := gw 359 (by decide +kernel) rfl
theorem k360 : (Jvm.Cond.methodLink "BlinkMesh$MeshText" (62 : Nat) ({ cls := "BlinkMesh$MeshText", name := "skip", desc := "(C)Z" } : Jvm.MethodName)) ∈ gtbl := gw 360 (by decide +kernel) rfl
theorem k362 : (Jvm.Cond.instanceMethod ({ cls := "BlinkMesh$MeshText", name := "skip", desc := "(C)Z" } : Jvm.MethodName)) ∈ gtbl := gw 362 (by decide +kernel) rfl
theorem k363 : (Jvm.Cond.code ({ cls := "BlinkMesh$MeshText", name := "skip", desc := "(C)Z" } : Jvm.MethodName) prog_4_method_17_code (2 : Nat) (Option.some Jvm.ClassFile.FieldType.boolean)) ∈ gtbl := gw 363 (by decide +kernel) rfl
theorem k364 : (Jvm.Cond.methodLink "BlinkMesh$MeshText" (66 : Nat) ({ cls := "BlinkMesh$MeshText", name := "parseLinks", desc := "()Z" } : Jvm.MethodName)) ∈ gtbl := gw 364 (by decide +kernel) rfl
theorem k366 : (Jvm.Cond.instanceMethod ({ cls := "BlinkMesh$MeshText", name := "parseLinks", desc := "()Z" } : Jvm.MethodName)) ∈ gtbl := gw 366 (by decide +kernel) rfl
theorem k367 : (Jvm.Cond.code ({ cls := "BlinkMesh$MeshText", name := "parseLinks", desc := "()Z" } : Jvm.MethodName) prog_4_method_13_code (2 : Nat) (Option.some Jvm.ClassFile.FieldType.boolean)) ∈ gtbl := gw 367 (by decide +kernel) rfl
theorem k368 : (Jvm.Cond.methodLink "BlinkMesh$MeshText" (81 : Nat) ({ cls := "BlinkMesh$MeshText", name := "parseLink", desc := "()Z" } : Jvm.MethodName)) ∈ gtbl := gw 368 (by decide +kernel) rfl
theorem k370 : (Jvm.Cond.instanceMethod ({ cls := "BlinkMesh$MeshText", name := "parseLink", desc := "()Z" } : Jvm.MethodName)) ∈ gtbl := gw 370 (by decide +kernel) rfl
theorem k371 : (Jvm.Cond.code ({ cls := "BlinkMesh$MeshText", name := "parseLink", desc := "()Z" } : Jvm.MethodName) prog_4_method_14_code (3 : Nat) (Option.some Jvm.ClassFile.FieldType.boolean)) ∈ gtbl := gw 371 (by decide +kernel) rfl
theorem k372 : (Jvm.Cond.methodLink "BlinkMesh$MeshText" (84 : Nat) ({ cls := "BlinkMesh$MeshText", name := "parseLetter", desc := "(I)I" } : Jvm.MethodName)) ∈ gtbl := gw 372 (by decide +kernel) rfl
theorem k374 : (Jvm.Cond.instanceMethod ({ cls := "BlinkMesh$MeshText", name := "parseLetter", desc := "(I)I" } : Jvm.MethodName)) ∈ gtbl := gw 374 (by decide +kernel) rfl
theorem k375 : (Jvm.Cond.code ({ cls := "BlinkMesh$MeshText", name := "parseLetter", desc := "(I)I" } : Jvm.MethodName) prog_4_method_15_code (3 : Nat) (Option.some Jvm.ClassFile.FieldType.int)) ∈ gtbl := gw 375 (by decide +kernel) rfl
theorem k376 : (Jvm.Cond.methodLink "BlinkMesh" (133 : Nat) ({ cls := "BlinkMesh$MeshText", name := "fault", desc := "()I" } : Jvm.MethodName)) ∈ gtbl := gw 376 (by decide +kernel) rfl
theorem k377 : (Jvm.Cond.instanceMethod ({ cls := "BlinkMesh$MeshText", name := "fault", desc := "()I" } : Jvm.MethodName)) ∈ gtbl := gw 377 (by decide +kernel) rfl
theorem k378 : (Jvm.Cond.selects "BlinkMesh$MeshText" ({ cls := "BlinkMesh$MeshText", name := "fault", desc := "()I" } : Jvm.MethodName) ({ cls := "BlinkMesh$MeshText", name := "fault", desc := "()I" } : Jvm.MethodName)) ∈ gtbl := gw 378 (by decide +kernel) rfl
theorem k379 : (Jvm.Cond.code ({ cls := "BlinkMesh$MeshText", name := "fault", desc := "()I" } : Jvm.MethodName) prog_4_method_3_code (1 : Nat) (Option.some Jvm.ClassFile.FieldType.int)) ∈ gtbl := gw 379 (by decide +kernel) rfl
theorem k380 : (Jvm.Cond.methodLink "BlinkMesh" (136 : Nat) ({ cls := "BlinkMesh$MeshText", name := "build", desc := "(LBlinkMesh$Mesh;)V" } : Jvm.MethodName)) ∈ gtbl := gw 380 (by decide +kernel) rfl
theorem k381 : (Jvm.Cond.instanceMethod ({ cls := "BlinkMesh$MeshText", name := "build", desc := "(LBlinkMesh$Mesh;)V" } : Jvm.MethodName)) ∈ gtbl := gw 381 (by decide +kernel) rfl
theorem k382 : (Jvm.Cond.selects "BlinkMesh$MeshText" ({ cls := "BlinkMesh$MeshText", name := "build", desc := "(LBlinkMesh$Mesh;)V" } : Jvm.MethodName) ({ cls := "BlinkMesh$MeshText", name := "build", desc := "(LBlinkMesh$Mesh;)V" } : Jvm.MethodName)) ∈ gtbl := gw 382 (by decide +kernel) rfl
theorem k383 : (Jvm.Cond.code ({ cls := "BlinkMesh$MeshText", name := "build", desc := "(LBlinkMesh$Mesh;)V" } : Jvm.MethodName) prog_4_method_7_code (4 : Nat) (Option.none : Option Jvm.ClassFile.FieldType)) ∈ gtbl := gw 383 (by decide +kernel) rfl
theorem k384 : (Jvm.Cond.methodLink "BlinkMesh$MeshText" (32 : Nat) ({ cls := "BlinkMesh$Mesh", name := "removeAll", desc := "()V" } : Jvm.MethodName)) ∈ gtbl := gw 384 (by decide +kernel) rfl
theorem k385 : (Jvm.Cond.instanceMethod ({ cls := "BlinkMesh$Mesh", name := "removeAll", desc := "()V" } : Jvm.MethodName)) ∈ gtbl := gw 385 (by decide +kernel) rfl
theorem k386 : (Jvm.Cond.selects "BlinkMesh$Mesh" ({ cls := "BlinkMesh$Mesh", name := "removeAll", desc := "()V" } : Jvm.MethodName) ({ cls := "BlinkMesh$Mesh", name := "removeAll", desc := "()V" } : Jvm.MethodName)) ∈ gtbl := gw 386 (by decide +kernel) rfl
theorem k387 : (Jvm.Cond.code ({ cls := "BlinkMesh$Mesh", name := "removeAll", desc := "()V" } : Jvm.MethodName) prog_3_method_17_code (2 : Nat) (Option.none : Option Jvm.ClassFile.FieldType)) ∈ gtbl := gw 387 (by decide +kernel) rfl
theorem k388 : (Jvm.Cond.methodLink "BlinkMesh$MeshText" (40 : Nat) ({ cls := "BlinkMesh$Mesh", name := "place", desc := "(III)V" } : Jvm.MethodName)) ∈ gtbl := gw 388 (by decide +kernel) rfl
theorem k390 : (Jvm.Cond.methodLink "BlinkMesh$MeshText" (47 : Nat) ({ cls := "BlinkMesh$Mesh", name := "changeLink", desc := "(IIZ)V" } : Jvm.MethodName)) ∈ gtbl := gw 390 (by decide +kernel) rfl
theorem k391 : (Jvm.Cond.methodLink "BlinkMesh$MeshText" (51 : Nat) ({ cls := "BlinkMesh$Mesh", name := "fitPhases", desc := "()V" } : Jvm.MethodName)) ∈ gtbl := gw 391 (by decide +kernel) rfl
theorem k392 : (Jvm.Cond.methodLink "BlinkMesh" (139 : Nat) ({ cls := "BlinkMesh$Mesh", name := "lamps", desc := "()I" } : Jvm.MethodName)) ∈ gtbl := gw 392 (by decide +kernel) rfl
theorem k393 : (Jvm.Cond.instanceMethod ({ cls := "BlinkMesh$Mesh", name := "lamps", desc := "()I" } : Jvm.MethodName)) ∈ gtbl := gw 393 (by decide +kernel) rfl
theorem k394 : (Jvm.Cond.selects "BlinkMesh$Mesh" ({ cls := "BlinkMesh$Mesh", name := "lamps", desc := "()I" } : Jvm.MethodName) ({ cls := "BlinkMesh$Mesh", name := "lamps", desc := "()I" } : Jvm.MethodName)) ∈ gtbl := gw 394 (by decide +kernel) rfl
theorem k395 : (Jvm.Cond.code ({ cls := "BlinkMesh$Mesh", name := "lamps", desc := "()I" } : Jvm.MethodName) prog_3_method_11_code (1 : Nat) (Option.some Jvm.ClassFile.FieldType.int)) ∈ gtbl := gw 395 (by decide +kernel) rfl
theorem k396 : (Jvm.Cond.methodLink "BlinkMeshLaw" (60 : Nat) ({ cls := "BlinkMesh", name := "undo", desc := "()I" } : Jvm.MethodName)) ∈ gtbl := gw 396 (by decide +kernel) rfl
theorem k397 : (Jvm.Cond.instanceMethod ({ cls := "BlinkMesh", name := "undo", desc := "()I" } : Jvm.MethodName)) ∈ gtbl := gw 397 (by decide +kernel) rfl
theorem k398 : (Jvm.Cond.selects "BlinkMesh" ({ cls := "BlinkMesh", name := "undo", desc := "()I" } : Jvm.MethodName) ({ cls := "BlinkMesh", name := "undo", desc := "()I" } : Jvm.MethodName)) ∈ gtbl := gw 398 (by decide +kernel) rfl
theorem k399 : (Jvm.Cond.code ({ cls := "BlinkMesh", name := "undo", desc := "()I" } : Jvm.MethodName) prog_1_method_12_code (1 : Nat) (Option.some Jvm.ClassFile.FieldType.int)) ∈ gtbl := gw 399 (by decide +kernel) rfl
theorem k400 : (Jvm.Cond.methodLink "BlinkMesh" (142 : Nat) ({ cls := "BlinkMesh$History", name := "size", desc := "()I" } : Jvm.MethodName)) ∈ gtbl := gw 400 (by decide +kernel) rfl
theorem k401 : (Jvm.Cond.instanceMethod ({ cls := "BlinkMesh$History", name := "size", desc := "()I" } : Jvm.MethodName)) ∈ gtbl := gw 401 (by decide +kernel) rfl
theorem k402 : (Jvm.Cond.selects "BlinkMesh$History" ({ cls := "BlinkMesh$History", name := "size", desc := "()I" } : Jvm.MethodName) ({ cls := "BlinkMesh$History", name := "size", desc := "()I" } : Jvm.MethodName)) ∈ gtbl := gw 402 (by decide +kernel) rfl
theorem k403 : (Jvm.Cond.code ({ cls := "BlinkMesh$History", name := "size", desc := "()I" } : Jvm.MethodName) prog_2_method_2_code (1 : Nat) (Option.some Jvm.ClassFile.FieldType.int)) ∈ gtbl := gw 403 (by decide +kernel) rfl
theorem k404 : (Jvm.Cond.methodLink "BlinkMesh" (145 : Nat) ({ cls := "BlinkMesh$History", name := "takeBack", desc := "(LBlinkMesh$Mesh;)V" } : Jvm.MethodName)) ∈ gtbl := gw 404 (by decide +kernel) rfl
theorem k405 : (Jvm.Cond.instanceMethod ({ cls := "BlinkMesh$History", name := "takeBack", desc := "(LBlinkMesh$Mesh;)V" } : Jvm.MethodName)) ∈ gtbl := gw 405 (by decide +kernel) rfl
theorem k406 : (Jvm.Cond.selects "BlinkMesh$History" ({ cls := "BlinkMesh$History", name := "takeBack", desc := "(LBlinkMesh$Mesh;)V" } : Jvm.MethodName) ({ cls := "BlinkMesh$History", name := "takeBack", desc := "(LBlinkMesh$Mesh;)V" } : Jvm.MethodName)) ∈ gtbl := gw 406 (by decide +kernel) rfl
theorem k407 : (Jvm.Cond.code ({ cls := "BlinkMesh$History", name := "takeBack", desc := "(LBlinkMesh$Mesh;)V" } : Jvm.MethodName) prog_2_method_5_code (2 : Nat) (Option.none : Option Jvm.ClassFile.FieldType)) ∈ gtbl := gw 407 (by decide +kernel) rfl
theorem k408 : (Jvm.Cond.methodLink "BlinkMeshLaw" (64 : Nat) ({ cls := "BlinkMesh", name := "keep", desc := "()I" } : Jvm.MethodName)) ∈ gtbl := gw 408 (by decide +kernel) rfl
theorem k409 : (Jvm.Cond.instanceMethod ({ cls := "BlinkMesh", name := "keep", desc := "()I" } : Jvm.MethodName)) ∈ gtbl := gw 409 (by decide +kernel) rfl
theorem k410 : (Jvm.Cond.selects "BlinkMesh" ({ cls := "BlinkMesh", name := "keep", desc := "()I" } : Jvm.MethodName) ({ cls := "BlinkMesh", name := "keep", desc := "()I" } : Jvm.MethodName)) ∈ gtbl := gw 410 (by decide +kernel) rfl
theorem k411 : (Jvm.Cond.code ({ cls := "BlinkMesh", name := "keep", desc := "()I" } : Jvm.MethodName) prog_1_method_13_code (1 : Nat) (Option.some Jvm.ClassFile.FieldType.int)) ∈ gtbl := gw 411 (by decide +kernel) rfl
theorem k412 : (Jvm.Cond.methodLink "BlinkMesh" (148 : Nat) ({ cls := "BlinkMesh$Mesh", name := "copyFrom", desc := "(LBlinkMesh$Mesh;)V" } : Jvm.MethodName)) ∈ gtbl := gw 412 (by decide +kernel) rfl
theorem k413 : (Jvm.Cond.methodLink "BlinkMeshLaw" (68 : Nat) ({ cls := "BlinkMesh", name := "restore", desc := "()I" } : Jvm.MethodName)) ∈ gtbl := gw 413 (by decide +kernel) rfl
theorem k414 : (Jvm.Cond.instanceMethod ({ cls := "BlinkMesh", name := "restore", desc := "()I" } : Jvm.MethodName)) ∈ gtbl := gw 414 (by decide +kernel) rfl
theorem k415 : (Jvm.Cond.selects "BlinkMesh" ({ cls := "BlinkMesh", name := "restore", desc := "()I" } : Jvm.MethodName) ({ cls := "BlinkMesh", name := "restore", desc := "()I" } : Jvm.MethodName)) ∈ gtbl := gw 415 (by decide +kernel) rfl
theorem k416 : (Jvm.Cond.code ({ cls := "BlinkMesh", name := "restore", desc := "()I" } : Jvm.MethodName) prog_1_method_14_code (1 : Nat) (Option.some Jvm.ClassFile.FieldType.int)) ∈ gtbl := gw 416 (by decide +kernel) rfl
theorem k417 : (Jvm.Cond.methodLink "BlinkMeshLaw" (72 : Nat) ({ cls := "BlinkMesh", name := "lamp", desc := "(II)I" } : Jvm.MethodName)) ∈ gtbl := gw 417 (by decide +kernel) rfl
theorem k418 : (Jvm.Cond.instanceMethod ({ cls := "BlinkMesh", name := "lamp", desc := "(II)I" } : Jvm.MethodName)) ∈ gtbl := gw 418 (by decide +kernel) rfl
theorem k419 : (Jvm.Cond.selects "BlinkMesh" ({ cls := "BlinkMesh", name := "lamp", desc := "(II)I" } : Jvm.MethodName) ({ cls := "BlinkMesh", name := "lamp", desc := "(II)I" } : Jvm.MethodName)) ∈ gtbl := gw 419 (by decide +kernel) rfl
theorem k420 : (Jvm.Cond.code ({ cls := "BlinkMesh", name := "lamp", desc := "(II)I" } : Jvm.MethodName) prog_1_method_15_code (3 : Nat) (Option.some Jvm.ClassFile.FieldType.int)) ∈ gtbl := gw 420 (by decide +kernel) rfl
theorem k421 : (Jvm.Cond.methodLink "BlinkMesh" (151 : Nat) ({ cls := "BlinkMesh$Mesh", name := "tellLamp", desc := "(II)I" } : Jvm.MethodName)) ∈ gtbl := gw 421 (by decide +kernel) rfl
theorem k422 : (Jvm.Cond.instanceMethod ({ cls := "BlinkMesh$Mesh", name := "tellLamp", desc := "(II)I" } : Jvm.MethodName)) ∈ gtbl := gw 422 (by decide +kernel) rfl
theorem k423 : (Jvm.Cond.selects "BlinkMesh$Mesh" ({ cls := "BlinkMesh$Mesh", name := "tellLamp", desc := "(II)I" } : Jvm.MethodName) ({ cls := "BlinkMesh$Mesh", name := "tellLamp", desc := "(II)I" } : Jvm.MethodName)) ∈ gtbl := gw 423 (by decide +kernel) rfl
theorem k424 : (Jvm.Cond.code ({ cls := "BlinkMesh$Mesh", name := "tellLamp", desc := "(II)I" } : Jvm.MethodName) prog_3_method_40_code (3 : Nat) (Option.some Jvm.ClassFile.FieldType.int)) ∈ gtbl := gw 424 (by decide +kernel) rfl
theorem k425 : (Jvm.Cond.methodLink "BlinkMesh$Mesh" (76 : Nat) ({ cls := "BlinkMesh$Mesh", name := "isOn", desc := "(I)Z" } : Jvm.MethodName)) ∈ gtbl := gw 425 (by decide +kernel) rfl
theorem k426 : (Jvm.Cond.methodLink "BlinkMesh$Mesh" (133 : Nat) ({ cls := "BlinkMesh$Mesh", name := "pieceOf", desc := "(I)I" } : Jvm.MethodName)) ∈ gtbl := gw 426 (by decide +kernel) rfl
theorem k428 : (Jvm.Cond.instanceMethod ({ cls := "BlinkMesh$Mesh", name := "pieceOf", desc := "(I)I" } : Jvm.MethodName)) ∈ gtbl := gw 428 (by decide +kernel) rfl
theorem k429 : (Jvm.Cond.code ({ cls := "BlinkMesh$Mesh", name := "pieceOf", desc := "(I)I" } : Jvm.MethodName) prog_3_method_35_code (5 : Nat) (Option.some Jvm.ClassFile.FieldType.int)) ∈ gtbl := gw 429 (by decide +kernel) rfl
theorem k430 : (Jvm.Cond.methodLink "BlinkMesh$Mesh" (130 : Nat) ({ cls := "BlinkMesh$Mesh", name := "neighbours", desc := "(I)I" } : Jvm.MethodName)) ∈ gtbl := gw 430 (by decide +kernel) rfl
theorem k432 : (Jvm.Cond.instanceMethod ({ cls := "BlinkMesh$Mesh", name := "neighbours", desc := "(I)I" } : Jvm.MethodName)) ∈ gtbl := gw 432 (by decide +kernel) rfl
theorem k433 : (Jvm.Cond.code ({ cls := "BlinkMesh$Mesh", name := "neighbours", desc := "(I)I" } : Jvm.MethodName) prog_3_method_36_code (4 : Nat) (Option.some Jvm.ClassFile.FieldType.int)) ∈ gtbl := gw 433 (by decide +kernel) rfl
theorem k434 : (Jvm.Cond.methodLink "BlinkMesh$Mesh" (136 : Nat) ({ cls := "BlinkMesh$Mesh", name := "agreeing", desc := "(I)I" } : Jvm.MethodName)) ∈ gtbl := gw 434 (by decide +kernel) rfl
theorem k436 : (Jvm.Cond.instanceMethod ({ cls := "BlinkMesh$Mesh", name := "agreeing", desc := "(I)I" } : Jvm.MethodName)) ∈ gtbl := gw 436 (by decide +kernel) rfl
theorem k437 : (Jvm.Cond.code ({ cls := "BlinkMesh$Mesh", name := "agreeing", desc := "(I)I" } : Jvm.MethodName) prog_3_method_38_code (4 : Nat) (Option.some Jvm.ClassFile.FieldType.int)) ∈ gtbl := gw 437 (by decide +kernel) rfl
theorem k438 : (Jvm.Cond.methodLink "BlinkMeshLaw" (76 : Nat) ({ cls := "BlinkMesh", name := "apart", desc := "(II)I" } : Jvm.MethodName)) ∈ gtbl := gw 438 (by decide +kernel) rfl
theorem k439 : (Jvm.Cond.instanceMethod ({ cls := "BlinkMesh", name := "apart", desc := "(II)I" } : Jvm.MethodName)) ∈ gtbl := gw 439 (by decide +kernel) rfl
theorem k440 : (Jvm.Cond.selects "BlinkMesh" ({ cls := "BlinkMesh", name := "apart", desc := "(II)I" } : Jvm.MethodName) ({ cls := "BlinkMesh", name := "apart", desc := "(II)I" } : Jvm.MethodName)) ∈ gtbl := gw 440 (by decide +kernel) rfl
end
section
theorem k441 : (Jvm.Cond.code ({ cls := "BlinkMesh", name := "apart", desc := "(II)I" } : Jvm.MethodName) prog_1_method_16_code (3 : Nat) (Option.some Jvm.ClassFile.FieldType.int)) ∈ gtbl := gw 441 (by decide +kernel) rfl
theorem k442 : (Jvm.Cond.methodLink "BlinkMesh" (154 : Nat) ({ cls := "BlinkMesh$Mesh", name := "distance", desc := "(II)I" } : Jvm.MethodName)) ∈ gtbl := gw 442 (by decide +kernel) rfl
theorem k443 : (Jvm.Cond.instanceMethod ({ cls := "BlinkMesh$Mesh", name := "distance", desc := "(II)I" } : Jvm.MethodName)) ∈ gtbl := gw 443 (by decide +kernel) rfl
theorem k444 : (Jvm.Cond.selects "BlinkMesh$Mesh" ({ cls := "BlinkMesh$Mesh", name := "distance", desc := "(II)I" } : Jvm.MethodName) ({ cls := "BlinkMesh$Mesh", name := "distance", desc := "(II)I" } : Jvm.MethodName)) ∈ gtbl := gw 444 (by decide +kernel) rfl
theorem k445 : (Jvm.Cond.code ({ cls := "BlinkMesh$Mesh", name := "distance", desc := "(II)I" } : Jvm.MethodName) prog_3_method_31_code (4 : Nat) (Option.some Jvm.ClassFile.FieldType.int)) ∈ gtbl := gw 445 (by decide +kernel) rfl
theorem k446 : (Jvm.Cond.methodLink "BlinkMesh$Mesh" (124 : Nat) ({ cls := "java/lang/Math", name := "abs", desc := "(I)I" } : Jvm.MethodName)) ∈ gtbl := gw 446 (by decide +kernel) rfl
theorem k447 : (Jvm.Cond.static ({ cls := "java/lang/Math", name := "abs", desc := "(I)I" } : Jvm.MethodName)) ∈ gtbl := gw 447 (by decide +kernel) rfl
theorem k448 : (Jvm.Cond.code ({ cls := "java/lang/Math", name := "abs", desc := "(I)I" } : Jvm.MethodName) prog_9_method_59_code (1 : Nat) (Option.some Jvm.ClassFile.FieldType.int)) ∈ gtbl := gw 448 (by decide +kernel) rfl
theorem k449 : (Jvm.Cond.methodLink "BlinkMeshLaw" (80 : Nat) ({ cls := "BlinkMesh", name := "next", desc := "(I)I" } : Jvm.MethodName)) ∈ gtbl := gw 449 (by decide +kernel) rfl
theorem k450 : (Jvm.Cond.instanceMethod ({ cls := "BlinkMesh", name := "next", desc := "(I)I" } : Jvm.MethodName)) ∈ gtbl := gw 450 (by decide +kernel) rfl
theorem k451 : (Jvm.Cond.selects "BlinkMesh" ({ cls := "BlinkMesh", name := "next", desc := "(I)I" } : Jvm.MethodName) ({ cls := "BlinkMesh", name := "next", desc := "(I)I" } : Jvm.MethodName)) ∈ gtbl := gw 451 (by decide +kernel) rfl
theorem k452 : (Jvm.Cond.code ({ cls := "BlinkMesh", name := "next", desc := "(I)I" } : Jvm.MethodName) prog_1_method_17_code (4 : Nat) (Option.some Jvm.ClassFile.FieldType.int)) ∈ gtbl := gw 452 (by decide +kernel) rfl
theorem k453 : (Jvm.Cond.methodLink "BlinkMesh" (157 : Nat) ({ cls := "BlinkMesh$Mesh", name := "tickOnce", desc := "()I" } : Jvm.MethodName)) ∈ gtbl := gw 453 (by decide +kernel) rfl
theorem k454 : (Jvm.Cond.methodLink "BlinkMeshLaw" (84 : Nat) ({ cls := "BlinkMesh", name := "togetherIn", desc := "()I" } : Jvm.MethodName)) ∈ gtbl := gw 454 (by decide +kernel) rfl
theorem k455 : (Jvm.Cond.instanceMethod ({ cls := "BlinkMesh", name := "togetherIn", desc := "()I" } : Jvm.MethodName)) ∈ gtbl := gw 455 (by decide +kernel) rfl
theorem k456 : (Jvm.Cond.selects "BlinkMesh" ({ cls := "BlinkMesh", name := "togetherIn", desc := "()I" } : Jvm.MethodName) ({ cls := "BlinkMesh", name := "togetherIn", desc := "()I" } : Jvm.MethodName)) ∈ gtbl := gw 456 (by decide +kernel) rfl
theorem k457 : (Jvm.Cond.code ({ cls := "BlinkMesh", name := "togetherIn", desc := "()I" } : Jvm.MethodName) prog_1_method_18_code (1 : Nat) (Option.some Jvm.ClassFile.FieldType.int)) ∈ gtbl := gw 457 (by decide +kernel) rfl
theorem k458 : (Jvm.Cond.methodLink "BlinkMesh" (160 : Nat) ({ cls := "BlinkMesh", name := "trialTogetherIn", desc := "()I" } : Jvm.MethodName)) ∈ gtbl := gw 458 (by decide +kernel) rfl
theorem k460 : (Jvm.Cond.instanceMethod ({ cls := "BlinkMesh", name := "trialTogetherIn", desc := "()I" } : Jvm.MethodName)) ∈ gtbl := gw 460 (by decide +kernel) rfl
theorem k461 : (Jvm.Cond.code ({ cls := "BlinkMesh", name := "trialTogetherIn", desc := "()I" } : Jvm.MethodName) prog_1_method_27_code (2 : Nat) (Option.some Jvm.ClassFile.FieldType.int)) ∈ gtbl := gw 461 (by decide +kernel) rfl
theorem k462 : (Jvm.Cond.methodLink "BlinkMesh" (163 : Nat) ({ cls := "BlinkMesh$Mesh", name := "isTogether", desc := "()Z" } : Jvm.MethodName)) ∈ gtbl := gw 462 (by decide +kernel) rfl
theorem k463 : (Jvm.Cond.instanceMethod ({ cls := "BlinkMesh$Mesh", name := "isTogether", desc := "()Z" } : Jvm.MethodName)) ∈ gtbl := gw 463 (by decide +kernel) rfl
theorem k464 : (Jvm.Cond.selects "BlinkMesh$Mesh" ({ cls := "BlinkMesh$Mesh", name := "isTogether", desc := "()Z" } : Jvm.MethodName) ({ cls := "BlinkMesh$Mesh", name := "isTogether", desc := "()Z" } : Jvm.MethodName)) ∈ gtbl := gw 464 (by decide +kernel) rfl
theorem k465 : (Jvm.Cond.code ({ cls := "BlinkMesh$Mesh", name := "isTogether", desc := "()Z" } : Jvm.MethodName) prog_3_method_33_code (3 : Nat) (Option.some Jvm.ClassFile.FieldType.boolean)) ∈ gtbl := gw 465 (by decide +kernel) rfl
theorem k466 : (Jvm.Cond.methodLink "BlinkMeshLaw" (88 : Nat) ({ cls := "BlinkMesh", name := "reason", desc := "()I" } : Jvm.MethodName)) ∈ gtbl := gw 466 (by decide +kernel) rfl
theorem k467 : (Jvm.Cond.instanceMethod ({ cls := "BlinkMesh", name := "reason", desc := "()I" } : Jvm.MethodName)) ∈ gtbl := gw 467 (by decide +kernel) rfl
theorem k468 : (Jvm.Cond.selects "BlinkMesh" ({ cls := "BlinkMesh", name := "reason", desc := "()I" } : Jvm.MethodName) ({ cls := "BlinkMesh", name := "reason", desc := "()I" } : Jvm.MethodName)) ∈ gtbl := gw 468 (by decide +kernel) rfl
theorem k469 : (Jvm.Cond.code ({ cls := "BlinkMesh", name := "reason", desc := "()I" } : Jvm.MethodName) prog_1_method_19_code (1 : Nat) (Option.some Jvm.ClassFile.FieldType.int)) ∈ gtbl := gw 469 (by decide +kernel) rfl
theorem k470 : (Jvm.Cond.methodLink "BlinkMesh" (166 : Nat) ({ cls := "BlinkMesh$Mesh", name := "pieces", desc := "()I" } : Jvm.MethodName)) ∈ gtbl := gw 470 (by decide +kernel) rfl
theorem k471 : (Jvm.Cond.instanceMethod ({ cls := "BlinkMesh$Mesh", name := "pieces", desc := "()I" } : Jvm.MethodName)) ∈ gtbl := gw 471 (by decide +kernel) rfl
theorem k472 : (Jvm.Cond.selects "BlinkMesh$Mesh" ({ cls := "BlinkMesh$Mesh", name := "pieces", desc := "()I" } : Jvm.MethodName) ({ cls := "BlinkMesh$Mesh", name := "pieces", desc := "()I" } : Jvm.MethodName)) ∈ gtbl := gw 472 (by decide +kernel) rfl
theorem k473 : (Jvm.Cond.code ({ cls := "BlinkMesh$Mesh", name := "pieces", desc := "()I" } : Jvm.MethodName) prog_3_method_37_code (4 : Nat) (Option.some Jvm.ClassFile.FieldType.int)) ∈ gtbl := gw 473 (by decide +kernel) rfl
theorem k474 : (Jvm.Cond.methodLink "BlinkMesh" (169 : Nat) ({ cls := "BlinkMesh$Mesh", name := "hasUnlikeRates", desc := "()Z" } : Jvm.MethodName)) ∈ gtbl := gw 474 (by decide +kernel) rfl
theorem k475 : (Jvm.Cond.instanceMethod ({ cls := "BlinkMesh$Mesh", name := "hasUnlikeRates", desc := "()Z" } : Jvm.MethodName)) ∈ gtbl := gw 475 (by decide +kernel) rfl
theorem k476 : (Jvm.Cond.selects "BlinkMesh$Mesh" ({ cls := "BlinkMesh$Mesh", name := "hasUnlikeRates", desc := "()Z" } : Jvm.MethodName) ({ cls := "BlinkMesh$Mesh", name := "hasUnlikeRates", desc := "()Z" } : Jvm.MethodName)) ∈ gtbl := gw 476 (by decide +kernel) rfl
theorem k477 : (Jvm.Cond.code ({ cls := "BlinkMesh$Mesh", name := "hasUnlikeRates", desc := "()Z" } : Jvm.MethodName) prog_3_method_34_code (3 : Nat) (Option.some Jvm.ClassFile.FieldType.boolean)) ∈ gtbl := gw 477 (by decide +kernel) rfl
theorem k478 : (Jvm.Cond.methodLink "BlinkMeshLaw" (92 : Nat) ({ cls := "BlinkMesh", name := "spread", desc := "()I" } : Jvm.MethodName)) ∈ gtbl := gw 478 (by decide +kernel) rfl
theorem k479 : (Jvm.Cond.instanceMethod ({ cls := "BlinkMesh", name := "spread", desc := "()I" } : Jvm.MethodName)) ∈ gtbl := gw 479 (by decide +kernel) rfl
theorem k480 : (Jvm.Cond.selects "BlinkMesh" ({ cls := "BlinkMesh", name := "spread", desc := "()I" } : Jvm.MethodName) ({ cls := "BlinkMesh", name := "spread", desc := "()I" } : Jvm.MethodName)) ∈ gtbl := gw 480 (by decide +kernel) rfl
theorem k481 : (Jvm.Cond.code ({ cls := "BlinkMesh", name := "spread", desc := "()I" } : Jvm.MethodName) prog_1_method_20_code (1 : Nat) (Option.some Jvm.ClassFile.FieldType.int)) ∈ gtbl := gw 481 (by decide +kernel) rfl
theorem k482 : (Jvm.Cond.methodLink "BlinkMesh" (172 : Nat) ({ cls := "BlinkMesh$Mesh", name := "greatestDistance", desc := "()I" } : Jvm.MethodName)) ∈ gtbl := gw 482 (by decide +kernel) rfl
theorem k483 : (Jvm.Cond.instanceMethod ({ cls := "BlinkMesh$Mesh", name := "greatestDistance", desc := "()I" } : Jvm.MethodName)) ∈ gtbl := gw 483 (by decide +kernel) rfl
theorem k484 : (Jvm.Cond.selects "BlinkMesh$Mesh" ({ cls := "BlinkMesh$Mesh", name := "greatestDistance", desc := "()I" } : Jvm.MethodName) ({ cls := "BlinkMesh$Mesh", name := "greatestDistance", desc := "()I" } : Jvm.MethodName)) ∈ gtbl := gw 484 (by decide +kernel) rfl
theorem k485 : (Jvm.Cond.code ({ cls := "BlinkMesh$Mesh", name := "greatestDistance", desc := "()I" } : Jvm.MethodName) prog_3_method_32_code (4 : Nat) (Option.some Jvm.ClassFile.FieldType.int)) ∈ gtbl := gw 485 (by decide +kernel) rfl
theorem k486 : (Jvm.Cond.methodLink "BlinkMesh$Mesh" (127 : Nat) ({ cls := "BlinkMesh$Mesh", name := "distance", desc := "(II)I" } : Jvm.MethodName)) ∈ gtbl := gw 486 (by decide +kernel) rfl
theorem k487 : (Jvm.Cond.methodLink "BlinkMeshLaw" (96 : Nat) ({ cls := "BlinkMesh", name := "ifLinked", desc := "(II)I" } : Jvm.MethodName)) ∈ gtbl := gw 487 (by decide +kernel) rfl
theorem k488 : (Jvm.Cond.instanceMethod ({ cls := "BlinkMesh", name := "ifLinked", desc := "(II)I" } : Jvm.MethodName)) ∈ gtbl := gw 488 (by decide +kernel) rfl
theorem k489 : (Jvm.Cond.selects "BlinkMesh" ({ cls := "BlinkMesh", name := "ifLinked", desc := "(II)I" } : Jvm.MethodName) ({ cls := "BlinkMesh", name := "ifLinked", desc := "(II)I" } : Jvm.MethodName)) ∈ gtbl := gw 489 (by decide +kernel) rfl
theorem k490 : (Jvm.Cond.code ({ cls := "BlinkMesh", name := "ifLinked", desc := "(II)I" } : Jvm.MethodName) prog_1_method_21_code (3 : Nat) (Option.some Jvm.ClassFile.FieldType.int)) ∈ gtbl := gw 490 (by decide +kernel) rfl
theorem k491 : (Jvm.Cond.methodLink "BlinkMeshLaw" (100 : Nat) ({ cls := "BlinkMesh", name := "hub", desc := "()I" } : Jvm.MethodName)) ∈ gtbl := gw 491 (by decide +kernel) rfl
theorem k492 : (Jvm.Cond.instanceMethod ({ cls := "BlinkMesh", name := "hub", desc := "()I" } : Jvm.MethodName)) ∈ gtbl := gw 492 (by decide +kernel) rfl
theorem k493 : (Jvm.Cond.selects "BlinkMesh" ({ cls := "BlinkMesh", name := "hub", desc := "()I" } : Jvm.MethodName) ({ cls := "BlinkMesh", name := "hub", desc := "()I" } : Jvm.MethodName)) ∈ gtbl := gw 493 (by decide +kernel) rfl
theorem k494 : (Jvm.Cond.code ({ cls := "BlinkMesh", name := "hub", desc := "()I" } : Jvm.MethodName) prog_1_method_22_code (2 : Nat) (Option.some Jvm.ClassFile.FieldType.int)) ∈ gtbl := gw 494 (by decide +kernel) rfl
theorem k495 : (Jvm.Cond.methodLink "BlinkMesh" (175 : Nat) ({ cls := "BlinkMesh$Mesh", name := "lampWithMostLinks", desc := "()I" } : Jvm.MethodName)) ∈ gtbl := gw 495 (by decide +kernel) rfl
theorem k496 : (Jvm.Cond.instanceMethod ({ cls := "BlinkMesh$Mesh", name := "lampWithMostLinks", desc := "()I" } : Jvm.MethodName)) ∈ gtbl := gw 496 (by decide +kernel) rfl
theorem k497 : (Jvm.Cond.selects "BlinkMesh$Mesh" ({ cls := "BlinkMesh$Mesh", name := "lampWithMostLinks", desc := "()I" } : Jvm.MethodName) ({ cls := "BlinkMesh$Mesh", name := "lampWithMostLinks", desc := "()I" } : Jvm.MethodName)) ∈ gtbl := gw 497 (by decide +kernel) rfl
theorem k498 : (Jvm.Cond.code ({ cls := "BlinkMesh$Mesh", name := "lampWithMostLinks", desc := "()I" } : Jvm.MethodName) prog_3_method_39_code (5 : Nat) (Option.some Jvm.ClassFile.FieldType.int)) ∈ gtbl := gw 498 (by decide +kernel) rfl
theorem k499 : (Jvm.Cond.methodLink "BlinkMeshLaw" (104 : Nat) ({ cls := "BlinkMesh", name := "bestLink", desc := "(I)I" } : Jvm.MethodName)) ∈ gtbl := gw 499 (by decide +kernel) rfl
theorem k500 : (Jvm.Cond.instanceMethod ({ cls := "BlinkMesh", name := "bestLink", desc := "(I)I" } : Jvm.MethodName)) ∈ gtbl := gw 500 (by decide +kernel) rfl
theorem k501 : (Jvm.Cond.selects "BlinkMesh" ({ cls := "BlinkMesh", name := "bestLink", desc := "(I)I" } : Jvm.MethodName) ({ cls := "BlinkMesh", name := "bestLink", desc := "(I)I" } : Jvm.MethodName)) ∈ gtbl := gw 501 (by decide +kernel) rfl
theorem k502 : (Jvm.Cond.code ({ cls := "BlinkMesh", name := "bestLink", desc := "(I)I" } : Jvm.MethodName) prog_1_method_23_code (8 : Nat) (Option.some Jvm.ClassFile.FieldType.int)) ∈ gtbl := gw 502 (by decide +kernel) rfl
theorem k503 : (Jvm.Cond.methodLink "BlinkMesh" (178 : Nat) ({ cls := "BlinkMesh$Mesh", name := "couldLink", desc := "(II)Z" } : Jvm.MethodName)) ∈ gtbl := gw 503 (by decide +kernel) rfl
theorem k504 : (Jvm.Cond.instanceMethod ({ cls := "BlinkMesh$Mesh", name := "couldLink", desc := "(II)Z" } : Jvm.MethodName)) ∈ gtbl := gw 504 (by decide +kernel) rfl
theorem k505 : (Jvm.Cond.selects "BlinkMesh$Mesh" ({ cls := "BlinkMesh$Mesh", name := "couldLink", desc := "(II)Z" } : Jvm.MethodName) ({ cls := "BlinkMesh$Mesh", name := "couldLink", desc := "(II)Z" } : Jvm.MethodName)) ∈ gtbl := gw 505 (by decide +kernel) rfl
theorem k506 : (Jvm.Cond.code ({ cls := "BlinkMesh$Mesh", name := "couldLink", desc := "(II)Z" } : Jvm.MethodName) prog_3_method_6_code (3 : Nat) (Option.some Jvm.ClassFile.FieldType.boolean)) ∈ gtbl := gw 506 (by decide +kernel) rfl
theorem k507 : (Jvm.Cond.methodLink "BlinkMesh$Mesh" (80 : Nat) ({ cls := "BlinkMesh$Mesh", name := "isLinked", desc := "(II)Z" } : Jvm.MethodName)) ∈ gtbl := gw 507 (by decide +kernel) rfl
theorem k508 : (Jvm.Cond.methodLink "BlinkMesh" (181 : Nat) ({ cls := "BlinkMesh", name := "spreadWith", desc := "(II)I" } : Jvm.MethodName)) ∈ gtbl := gw 508 (by decide +kernel) rfl
theorem k510 : (Jvm.Cond.instanceMethod ({ cls := "BlinkMesh", name := "spreadWith", desc := "(II)I" } : Jvm.MethodName)) ∈ gtbl := gw 510 (by decide +kernel) rfl
theorem k511 : (Jvm.Cond.code ({ cls := "BlinkMesh", name := "spreadWith", desc := "(II)I" } : Jvm.MethodName) prog_1_method_28_code (3 : Nat) (Option.some Jvm.ClassFile.FieldType.int)) ∈ gtbl := gw 511 (by decide +kernel) rfl
theorem k512 : (Jvm.Cond.methodLink "BlinkMeshLaw" (108 : Nat) ({ cls := "BlinkMesh", name := "count", desc := "(I)I" } : Jvm.MethodName)) ∈ gtbl := gw 512 (by decide +kernel) rfl
theorem k513 : (Jvm.Cond.instanceMethod ({ cls := "BlinkMesh", name := "count", desc := "(I)I" } : Jvm.MethodName)) ∈ gtbl := gw 513 (by decide +kernel) rfl
theorem k514 : (Jvm.Cond.selects "BlinkMesh" ({ cls := "BlinkMesh", name := "count", desc := "(I)I" } : Jvm.MethodName) ({ cls := "BlinkMesh", name := "count", desc := "(I)I" } : Jvm.MethodName)) ∈ gtbl := gw 514 (by decide +kernel) rfl
theorem k515 : (Jvm.Cond.code ({ cls := "BlinkMesh", name := "count", desc := "(I)I" } : Jvm.MethodName) prog_1_method_24_code (2 : Nat) (Option.some Jvm.ClassFile.FieldType.int)) ∈ gtbl := gw 515 (by decide +kernel) rfl
theorem k516 : (Jvm.Cond.methodLink "BlinkMesh" (184 : Nat) ({ cls := "BlinkMesh$Mesh", name := "tellMesh", desc := "(I)I" } : Jvm.MethodName)) ∈ gtbl := gw 516 (by decide +kernel) rfl
theorem k517 : (Jvm.Cond.instanceMethod ({ cls := "BlinkMesh$Mesh", name := "tellMesh", desc := "(I)I" } : Jvm.MethodName)) ∈ gtbl := gw 517 (by decide +kernel) rfl
theorem k518 : (Jvm.Cond.selects "BlinkMesh$Mesh" ({ cls := "BlinkMesh$Mesh", name := "tellMesh", desc := "(I)I" } : Jvm.MethodName) ({ cls := "BlinkMesh$Mesh", name := "tellMesh", desc := "(I)I" } : Jvm.MethodName)) ∈ gtbl := gw 518 (by decide +kernel) rfl
theorem k519 : (Jvm.Cond.code ({ cls := "BlinkMesh$Mesh", name := "tellMesh", desc := "(I)I" } : Jvm.MethodName) prog_3_method_41_code (2 : Nat) (Option.some Jvm.ClassFile.FieldType.int)) ∈ gtbl := gw 519 (by decide +kernel) rfl
theorem k520 : (Jvm.Cond.methodLink "BlinkMesh$Mesh" (139 : Nat) ({ cls := "BlinkMesh$Mesh", name := "lamps", desc := "()I" } : Jvm.MethodName)) ∈ gtbl := gw 520 (by decide +kernel) rfl
theorem k521 : (Jvm.Cond.methodLink "BlinkMesh$Mesh" (142 : Nat) ({ cls := "BlinkMesh$Mesh", name := "lampsOn", desc := "()I" } : Jvm.MethodName)) ∈ gtbl := gw 521 (by decide +kernel) rfl
theorem k522 : (Jvm.Cond.methodLink "BlinkMesh$Mesh" (145 : Nat) ({ cls := "BlinkMesh$Mesh", name := "links", desc := "()I" } : Jvm.MethodName)) ∈ gtbl := gw 522 (by decide +kernel) rfl
theorem k523 : (Jvm.Cond.methodLink "BlinkMesh$Mesh" (148 : Nat) ({ cls := "BlinkMesh$Mesh", name := "pieces", desc := "()I" } : Jvm.MethodName)) ∈ gtbl := gw 523 (by decide +kernel) rfl
theorem k524 : (Jvm.Cond.classLink "BlinkMeshLaw" (10 : Nat) "BlinkMeshModel") ∈ gtbl := gw 524 (by decide +kernel) rfl
theorem k525 : (Jvm.Cond.instantiable "BlinkMeshModel" (13 : Nat)) ∈ gtbl := gw 525 (by decide +kernel) rfl
theorem k526 : (Jvm.Cond.methodLink "BlinkMeshLaw" (12 : Nat) ({ cls := "BlinkMeshModel", name := "<init>", desc := "()V" } : Jvm.MethodName)) ∈ gtbl := gw 526 (by decide +kernel) rfl
theorem k527 : (Jvm.Cond.instanceMethod ({ cls := "BlinkMeshModel", name := "<init>", desc := "()V" } : Jvm.MethodName)) ∈ gtbl := gw 527 (by decide +kernel) rfl
theorem k528 : (Jvm.Cond.code ({ cls := "BlinkMeshModel", name := "<init>", desc := "()V" } : Jvm.MethodName) prog_6_method_1_code (1 : Nat) (Option.none : Option Jvm.ClassFile.FieldType)) ∈ gtbl := gw 528 (by decide +kernel) rfl
theorem k529 : (Jvm.Cond.methodLink "BlinkMeshModel" (1 : Nat) ({ cls := "java/lang/Object", name := "<init>", desc := "()V" } : Jvm.MethodName)) ∈ gtbl := gw 529 (by decide +kernel) rfl
theorem k530 : (Jvm.Cond.fieldLink "BlinkMeshModel" (7 : Nat) "BlinkMeshModel" "s" "[I") ∈ gtbl := gw 530 (by decide +kernel) rfl
theorem k531 : (Jvm.Cond.fieldLink "BlinkMeshModel" (13 : Nat) "BlinkMeshModel" "history" "[I") ∈ gtbl := gw 531 (by decide +kernel) rfl
theorem k532 : (Jvm.Cond.fieldLink "BlinkMeshModel" (43 : Nat) "BlinkMeshModel" "kept" "I") ∈ gtbl := gw 532 (by decide +kernel) rfl
theorem k533 : (Jvm.Cond.fieldLink "BlinkMeshModel" (16 : Nat) "BlinkMeshModel" "snapshot" "[I") ∈ gtbl := gw 533 (by decide +kernel) rfl
theorem k534 : (Jvm.Cond.fieldLink "BlinkMeshModel" (150 : Nat) "BlinkMeshModel" "isTaken" "Z") ∈ gtbl := gw 534 (by decide +kernel) rfl
theorem k535 : (Jvm.Cond.fieldLink "BlinkMeshModel" (19 : Nat) "BlinkMeshModel" "before" "[I") ∈ gtbl := gw 535 (by decide +kernel) rfl
theorem k536 : (Jvm.Cond.fieldLink "BlinkMeshModel" (22 : Nat) "BlinkMeshModel" "text" "[C") ∈ gtbl := gw 536 (by decide +kernel) rfl
theorem k537 : (Jvm.Cond.fieldLink "BlinkMeshModel" (119 : Nat) "BlinkMeshModel" "length" "I") ∈ gtbl := gw 537 (by decide +kernel) rfl
theorem k538 : (Jvm.Cond.fieldLink "BlinkMeshModel" (122 : Nat) "BlinkMeshModel" "place" "I") ∈ gtbl := gw 538 (by decide +kernel) rfl
theorem k539 : (Jvm.Cond.fieldLink "BlinkMeshModel" (134 : Nat) "BlinkMeshModel" "told" "I") ∈ gtbl := gw 539 (by decide +kernel) rfl
theorem k540 : (Jvm.Cond.fieldLink "BlinkMeshModel" (26 : Nat) "BlinkMeshModel" "phases" "[I") ∈ gtbl := gw 540 (by decide +kernel) rfl
theorem k541 : (Jvm.Cond.fieldLink "BlinkMeshModel" (29 : Nat) "BlinkMeshModel" "rates" "[I") ∈ gtbl := gw 541 (by decide +kernel) rfl
theorem k542 : (Jvm.Cond.fieldLink "BlinkMeshModel" (32 : Nat) "BlinkMeshModel" "toldLinks" "[I") ∈ gtbl := gw 542 (by decide +kernel) rfl
theorem k570 : (Jvm.Cond.methodLink "BlinkMeshLaw" (17 : Nat) ({ cls := "BlinkMeshModel", name := "come", desc := "(II)I" } : Jvm.MethodName)) ∈ gtbl := gw 570 (by decide +kernel) rfl
theorem k571 : (Jvm.Cond.instanceMethod ({ cls := "BlinkMeshModel", name := "come", desc := "(II)I" } : Jvm.MethodName)) ∈ gtbl := gw 571 (by decide +kernel) rfl
theorem k572 : (Jvm.Cond.selects "BlinkMeshModel" ({ cls := "BlinkMeshModel", name := "come", desc := "(II)I" } : Jvm.MethodName) ({ cls := "BlinkMeshModel", name := "come", desc := "(II)I" } : Jvm.MethodName)) ∈ gtbl := gw 572 (by decide +kernel) rfl
theorem k573 : (Jvm.Cond.code ({ cls := "BlinkMeshModel", name := "come", desc := "(II)I" } : Jvm.MethodName) prog_6_method_27_code (4 : Nat) (Option.some Jvm.ClassFile.FieldType.int)) ∈ gtbl := gw 573 (by decide +kernel) rfl
theorem k574 : (Jvm.Cond.methodLink "BlinkMeshModel" (35 : Nat) ({ cls := "BlinkMeshModel", name := "in", desc := "(III)Z" } : Jvm.MethodName)) ∈ gtbl := gw 574 (by decide +kernel) rfl
theorem k575 : (Jvm.Cond.static ({ cls := "BlinkMeshModel", name := "in", desc := "(III)Z" } : Jvm.MethodName)) ∈ gtbl := gw 575 (by decide +kernel) rfl
theorem k576 : (Jvm.Cond.code ({ cls := "BlinkMeshModel", name := "in", desc := "(III)Z" } : Jvm.MethodName) prog_6_method_3_code (3 : Nat) (Option.some Jvm.ClassFile.FieldType.boolean)) ∈ gtbl := gw 576 (by decide +kernel) rfl
theorem k577 : (Jvm.Cond.methodLink "BlinkMeshModel" (39 : Nat) ({ cls := "BlinkMeshModel", name := "of", desc := "(II)I" } : Jvm.MethodName)) ∈ gtbl := gw 577 (by decide +kernel) rfl
theorem k579 : (Jvm.Cond.instanceMethod ({ cls := "BlinkMeshModel", name := "of", desc := "(II)I" } : Jvm.MethodName)) ∈ gtbl := gw 579 (by decide +kernel) rfl
theorem k580 : (Jvm.Cond.code ({ cls := "BlinkMeshModel", name := "of", desc := "(II)I" } : Jvm.MethodName) prog_6_method_6_code (3 : Nat) (Option.some Jvm.ClassFile.FieldType.int)) ∈ gtbl := gw 580 (by decide +kernel) rfl
theorem k581 : (Jvm.Cond.methodLink "BlinkMeshModel" (98 : Nat) ({ cls := "BlinkMeshModel", name := "record", desc := "()V" } : Jvm.MethodName)) ∈ gtbl := gw 581 (by decide +kernel) rfl
theorem k583 : (Jvm.Cond.instanceMethod ({ cls := "BlinkMeshModel", name := "record", desc := "()V" } : Jvm.MethodName)) ∈ gtbl := gw 583 (by decide +kernel) rfl
theorem k584 : (Jvm.Cond.code ({ cls := "BlinkMeshModel", name := "record", desc := "()V" } : Jvm.MethodName) prog_6_method_12_code (2 : Nat) (Option.none : Option Jvm.ClassFile.FieldType)) ∈ gtbl := gw 584 (by decide +kernel) rfl
theorem k585 : (Jvm.Cond.methodLink "BlinkMeshModel" (47 : Nat) ({ cls := "BlinkMeshModel", name := "copy", desc := "([II[II)V" } : Jvm.MethodName)) ∈ gtbl := gw 585 (by decide +kernel) rfl
theorem k586 : (Jvm.Cond.static ({ cls := "BlinkMeshModel", name := "copy", desc := "([II[II)V" } : Jvm.MethodName)) ∈ gtbl := gw 586 (by decide +kernel) rfl
theorem k587 : (Jvm.Cond.code ({ cls := "BlinkMeshModel", name := "copy", desc := "([II[II)V" } : Jvm.MethodName) prog_6_method_11_code (5 : Nat) (Option.none : Option Jvm.ClassFile.FieldType)) ∈ gtbl := gw 587 (by decide +kernel) rfl
theorem k588 : (Jvm.Cond.methodLink "BlinkMeshModel" (101 : Nat) ({ cls := "BlinkMeshModel", name := "lay", desc := "(III)V" } : Jvm.MethodName)) ∈ gtbl := gw 588 (by decide +kernel) rfl
theorem k590 : (Jvm.Cond.instanceMethod ({ cls := "BlinkMeshModel", name := "lay", desc := "(III)V" } : Jvm.MethodName)) ∈ gtbl := gw 590 (by decide +kernel) rfl
theorem k591 : (Jvm.Cond.code ({ cls := "BlinkMeshModel", name := "lay", desc := "(III)V" } : Jvm.MethodName) prog_6_method_28_code (5 : Nat) (Option.none : Option Jvm.ClassFile.FieldType)) ∈ gtbl := gw 591 (by decide +kernel) rfl
theorem k592 : (Jvm.Cond.methodLink "BlinkMeshModel" (62 : Nat) ({ cls := "BlinkMeshModel", name := "put", desc := "(III)V" } : Jvm.MethodName)) ∈ gtbl := gw 592 (by decide +kernel) rfl
theorem k594 : (Jvm.Cond.instanceMethod ({ cls := "BlinkMeshModel", name := "put", desc := "(III)V" } : Jvm.MethodName)) ∈ gtbl := gw 594 (by decide +kernel) rfl
theorem k595 : (Jvm.Cond.code ({ cls := "BlinkMeshModel", name := "put", desc := "(III)V" } : Jvm.MethodName) prog_6_method_7_code (4 : Nat) (Option.none : Option Jvm.ClassFile.FieldType)) ∈ gtbl := gw 595 (by decide +kernel) rfl
theorem k596 : (Jvm.Cond.methodLink "BlinkMeshModel" (70 : Nat) ({ cls := "BlinkMeshModel", name := "round", desc := "()I" } : Jvm.MethodName)) ∈ gtbl := gw 596 (by decide +kernel) rfl
theorem k598 : (Jvm.Cond.instanceMethod ({ cls := "BlinkMeshModel", name := "round", desc := "()I" } : Jvm.MethodName)) ∈ gtbl := gw 598 (by decide +kernel) rfl
theorem k599 : (Jvm.Cond.code ({ cls := "BlinkMeshModel", name := "round", desc := "()I" } : Jvm.MethodName) prog_6_method_10_code (1 : Nat) (Option.some Jvm.ClassFile.FieldType.int)) ∈ gtbl := gw 599 (by decide +kernel) rfl
theorem k600 : (Jvm.Cond.methodLink "BlinkMeshLaw" (22 : Nat) ({ cls := "BlinkMeshModel", name := "goAway", desc := "(I)I" } : Jvm.MethodName)) ∈ gtbl := gw 600 (by decide +kernel) rfl
theorem k601 : (Jvm.Cond.instanceMethod ({ cls := "BlinkMeshModel", name := "goAway", desc := "(I)I" } : Jvm.MethodName)) ∈ gtbl := gw 601 (by decide +kernel) rfl
theorem k602 : (Jvm.Cond.selects "BlinkMeshModel" ({ cls := "BlinkMeshModel", name := "goAway", desc := "(I)I" } : Jvm.MethodName) ({ cls := "BlinkMeshModel", name := "goAway", desc := "(I)I" } : Jvm.MethodName)) ∈ gtbl := gw 602 (by decide +kernel) rfl
theorem k603 : (Jvm.Cond.code ({ cls := "BlinkMeshModel", name := "goAway", desc := "(I)I" } : Jvm.MethodName) prog_6_method_30_code (4 : Nat) (Option.some Jvm.ClassFile.FieldType.int)) ∈ gtbl := gw 603 (by decide +kernel) rfl
theorem k604 : (Jvm.Cond.methodLink "BlinkMeshModel" (104 : Nat) ({ cls := "BlinkMeshModel", name := "isLamp", desc := "(I)Z" } : Jvm.MethodName)) ∈ gtbl := gw 604 (by decide +kernel) rfl
theorem k606 : (Jvm.Cond.instanceMethod ({ cls := "BlinkMeshModel", name := "isLamp", desc := "(I)Z" } : Jvm.MethodName)) ∈ gtbl := gw 606 (by decide +kernel) rfl
theorem k607 : (Jvm.Cond.code ({ cls := "BlinkMeshModel", name := "isLamp", desc := "(I)Z" } : Jvm.MethodName) prog_6_method_8_code (2 : Nat) (Option.some Jvm.ClassFile.FieldType.boolean)) ∈ gtbl := gw 607 (by decide +kernel) rfl
theorem k608 : (Jvm.Cond.methodLink "BlinkMeshModel" (55 : Nat) ({ cls := "BlinkMeshModel", name := "bits", desc := "(I)I" } : Jvm.MethodName)) ∈ gtbl := gw 608 (by decide +kernel) rfl
theorem k609 : (Jvm.Cond.static ({ cls := "BlinkMeshModel", name := "bits", desc := "(I)I" } : Jvm.MethodName)) ∈ gtbl := gw 609 (by decide +kernel) rfl
theorem k610 : (Jvm.Cond.code ({ cls := "BlinkMeshModel", name := "bits", desc := "(I)I" } : Jvm.MethodName) prog_6_method_5_code (3 : Nat) (Option.some Jvm.ClassFile.FieldType.int)) ∈ gtbl := gw 610 (by decide +kernel) rfl
theorem k611 : (Jvm.Cond.methodLink "BlinkMeshLaw" (27 : Nat) ({ cls := "BlinkMeshModel", name := "turn", desc := "(IZ)I" } : Jvm.MethodName)) ∈ gtbl := gw 611 (by decide +kernel) rfl
theorem k612 : (Jvm.Cond.instanceMethod ({ cls := "BlinkMeshModel", name := "turn", desc := "(IZ)I" } : Jvm.MethodName)) ∈ gtbl := gw 612 (by decide +kernel) rfl
theorem k613 : (Jvm.Cond.selects "BlinkMeshModel" ({ cls := "BlinkMeshModel", name := "turn", desc := "(IZ)I" } : Jvm.MethodName) ({ cls := "BlinkMeshModel", name := "turn", desc := "(IZ)I" } : Jvm.MethodName)) ∈ gtbl := gw 613 (by decide +kernel) rfl
theorem k614 : (Jvm.Cond.code ({ cls := "BlinkMeshModel", name := "turn", desc := "(IZ)I" } : Jvm.MethodName) prog_6_method_31_code (3 : Nat) (Option.some Jvm.ClassFile.FieldType.int)) ∈ gtbl := gw 614 (by decide +kernel) rfl
theorem k615 : (Jvm.Cond.methodLink "BlinkMeshModel" (58 : Nat) ({ cls := "BlinkMeshModel", name := "isOn", desc := "(I)Z" } : Jvm.MethodName)) ∈ gtbl := gw 615 (by decide +kernel) rfl
theorem k617 : (Jvm.Cond.instanceMethod ({ cls := "BlinkMeshModel", name := "isOn", desc := "(I)Z" } : Jvm.MethodName)) ∈ gtbl := gw 617 (by decide +kernel) rfl
theorem k618 : (Jvm.Cond.code ({ cls := "BlinkMeshModel", name := "isOn", desc := "(I)Z" } : Jvm.MethodName) prog_6_method_9_code (2 : Nat) (Option.some Jvm.ClassFile.FieldType.boolean)) ∈ gtbl := gw 618 (by decide +kernel) rfl
theorem k619 : (Jvm.Cond.methodLink "BlinkMeshModel" (86 : Nat) ({ cls := "BlinkMeshModel", name := "lampsOn", desc := "()I" } : Jvm.MethodName)) ∈ gtbl := gw 619 (by decide +kernel) rfl
theorem k621 : (Jvm.Cond.instanceMethod ({ cls := "BlinkMeshModel", name := "lampsOn", desc := "()I" } : Jvm.MethodName)) ∈ gtbl := gw 621 (by decide +kernel) rfl
theorem k622 : (Jvm.Cond.code ({ cls := "BlinkMeshModel", name := "lampsOn", desc := "()I" } : Jvm.MethodName) prog_6_method_14_code (1 : Nat) (Option.some Jvm.ClassFile.FieldType.int)) ∈ gtbl := gw 622 (by decide +kernel) rfl
theorem k623 : (Jvm.Cond.methodLink "BlinkMeshModel" (51 : Nat) ({ cls := "BlinkMeshModel", name := "setOf", desc := "(I)I" } : Jvm.MethodName)) ∈ gtbl := gw 623 (by decide +kernel) rfl
theorem k625 : (Jvm.Cond.instanceMethod ({ cls := "BlinkMeshModel", name := "setOf", desc := "(I)I" } : Jvm.MethodName)) ∈ gtbl := gw 625 (by decide +kernel) rfl
theorem k626 : (Jvm.Cond.code ({ cls := "BlinkMeshModel", name := "setOf", desc := "(I)I" } : Jvm.MethodName) prog_6_method_13_code (4 : Nat) (Option.some Jvm.ClassFile.FieldType.int)) ∈ gtbl := gw 626 (by decide +kernel) rfl
theorem k627 : (Jvm.Cond.methodLink "BlinkMeshLaw" (32 : Nat) ({ cls := "BlinkMeshModel", name := "link", desc := "(IIZ)I" } : Jvm.MethodName)) ∈ gtbl := gw 627 (by decide +kernel) rfl
theorem k628 : (Jvm.Cond.instanceMethod ({ cls := "BlinkMeshModel", name := "link", desc := "(IIZ)I" } : Jvm.MethodName)) ∈ gtbl := gw 628 (by decide +kernel) rfl
theorem k629 : (Jvm.Cond.selects "BlinkMeshModel" ({ cls := "BlinkMeshModel", name := "link", desc := "(IIZ)I" } : Jvm.MethodName) ({ cls := "BlinkMeshModel", name := "link", desc := "(IIZ)I" } : Jvm.MethodName)) ∈ gtbl := gw 629 (by decide +kernel) rfl
theorem k630 : (Jvm.Cond.code ({ cls := "BlinkMeshModel", name := "link", desc := "(IIZ)I" } : Jvm.MethodName) prog_6_method_32_code (4 : Nat) (Option.some Jvm.ClassFile.FieldType.int)) ∈ gtbl := gw 630 (by decide +kernel) rfl
theorem k631 : (Jvm.Cond.methodLink "BlinkMeshModel" (66 : Nat) ({ cls := "BlinkMeshModel", name := "has", desc := "(II)Z" } : Jvm.MethodName)) ∈ gtbl := gw 631 (by decide +kernel) rfl
theorem k632 : (Jvm.Cond.static ({ cls := "BlinkMeshModel", name := "has", desc := "(II)Z" } : Jvm.MethodName)) ∈ gtbl := gw 632 (by decide +kernel) rfl
theorem k633 : (Jvm.Cond.code ({ cls := "BlinkMeshModel", name := "has", desc := "(II)Z" } : Jvm.MethodName) prog_6_method_4_code (2 : Nat) (Option.some Jvm.ClassFile.FieldType.boolean)) ∈ gtbl := gw 633 (by decide +kernel) rfl
theorem k634 : (Jvm.Cond.methodLink "BlinkMeshModel" (107 : Nat) ({ cls := "BlinkMeshModel", name := "connect", desc := "(IIZ)V" } : Jvm.MethodName)) ∈ gtbl := gw 634 (by decide +kernel) rfl
theorem k636 : (Jvm.Cond.instanceMethod ({ cls := "BlinkMeshModel", name := "connect", desc := "(IIZ)V" } : Jvm.MethodName)) ∈ gtbl := gw 636 (by decide +kernel) rfl
theorem k637 : (Jvm.Cond.code ({ cls := "BlinkMeshModel", name := "connect", desc := "(IIZ)V" } : Jvm.MethodName) prog_6_method_29_code (4 : Nat) (Option.none : Option Jvm.ClassFile.FieldType)) ∈ gtbl := gw 637 (by decide +kernel) rfl
theorem k638 : (Jvm.Cond.methodLink "BlinkMeshModel" (111 : Nat) ({ cls := "BlinkMeshModel", name := "links", desc := "()I" } : Jvm.MethodName)) ∈ gtbl := gw 638 (by decide +kernel) rfl
theorem k640 : (Jvm.Cond.instanceMethod ({ cls := "BlinkMeshModel", name := "links", desc := "()I" } : Jvm.MethodName)) ∈ gtbl := gw 640 (by decide +kernel) rfl
theorem k641 : (Jvm.Cond.code ({ cls := "BlinkMeshModel", name := "links", desc := "()I" } : Jvm.MethodName) prog_6_method_15_code (3 : Nat) (Option.some Jvm.ClassFile.FieldType.int)) ∈ gtbl := gw 641 (by decide +kernel) rfl
theorem k642 : (Jvm.Cond.methodLink "BlinkMeshLaw" (37 : Nat) ({ cls := "BlinkMeshModel", name := "tune", desc := "(III)I" } : Jvm.MethodName)) ∈ gtbl := gw 642 (by decide +kernel) rfl
theorem k643 : (Jvm.Cond.instanceMethod ({ cls := "BlinkMeshModel", name := "tune", desc := "(III)I" } : Jvm.MethodName)) ∈ gtbl := gw 643 (by decide +kernel) rfl
theorem k644 : (Jvm.Cond.selects "BlinkMeshModel" ({ cls := "BlinkMeshModel", name := "tune", desc := "(III)I" } : Jvm.MethodName) ({ cls := "BlinkMeshModel", name := "tune", desc := "(III)I" } : Jvm.MethodName)) ∈ gtbl := gw 644 (by decide +kernel) rfl
theorem k645 : (Jvm.Cond.code ({ cls := "BlinkMeshModel", name := "tune", desc := "(III)I" } : Jvm.MethodName) prog_6_method_33_code (5 : Nat) (Option.some Jvm.ClassFile.FieldType.int)) ∈ gtbl := gw 645 (by decide +kernel) rfl
theorem k646 : (Jvm.Cond.methodLink "BlinkMeshLaw" (41 : Nat) ({ cls := "BlinkMeshModel", name := "set", desc := "(II)I" } : Jvm.MethodName)) ∈ gtbl := gw 646 (by decide +kernel) rfl
theorem k647 : (Jvm.Cond.instanceMethod ({ cls := "BlinkMeshModel", name := "set", desc := "(II)I" } : Jvm.MethodName)) ∈ gtbl := gw 647 (by decide +kernel) rfl
theorem k648 : (Jvm.Cond.selects "BlinkMeshModel" ({ cls := "BlinkMeshModel", name := "set", desc := "(II)I" } : Jvm.MethodName) ({ cls := "BlinkMeshModel", name := "set", desc := "(II)I" } : Jvm.MethodName)) ∈ gtbl := gw 648 (by decide +kernel) rfl
theorem k649 : (Jvm.Cond.code ({ cls := "BlinkMeshModel", name := "set", desc := "(II)I" } : Jvm.MethodName) prog_6_method_34_code (6 : Nat) (Option.some Jvm.ClassFile.FieldType.int)) ∈ gtbl := gw 649 (by decide +kernel) rfl
theorem k650 : (Jvm.Cond.methodLink "BlinkMeshLaw" (45 : Nat) ({ cls := "BlinkMeshModel", name := "pass", desc := "(I)I" } : Jvm.MethodName)) ∈ gtbl := gw 650 (by decide +kernel) rfl
theorem k651 : (Jvm.Cond.instanceMethod ({ cls := "BlinkMeshModel", name := "pass", desc := "(I)I" } : Jvm.MethodName)) ∈ gtbl := gw 651 (by decide +kernel) rfl
theorem k652 : (Jvm.Cond.selects "BlinkMeshModel" ({ cls := "BlinkMeshModel", name := "pass", desc := "(I)I" } : Jvm.MethodName) ({ cls := "BlinkMeshModel", name := "pass", desc := "(I)I" } : Jvm.MethodName)) ∈ gtbl := gw 652 (by decide +kernel) rfl
theorem k653 : (Jvm.Cond.code ({ cls := "BlinkMeshModel", name := "pass", desc := "(I)I" } : Jvm.MethodName) prog_6_method_35_code (3 : Nat) (Option.some Jvm.ClassFile.FieldType.int)) ∈ gtbl := gw 653 (by decide +kernel) rfl
theorem k654 : (Jvm.Cond.constant "BlinkMeshModel" (114 : Nat) (99999 : Int32)) ∈ gtbl := gw 654 (by decide +kernel) rfl
theorem k655 : (Jvm.Cond.methodLink "BlinkMeshModel" (115 : Nat) ({ cls := "BlinkMeshModel", name := "goOn", desc := "(I)V" } : Jvm.MethodName)) ∈ gtbl := gw 655 (by decide +kernel) rfl
theorem k657 : (Jvm.Cond.instanceMethod ({ cls := "BlinkMeshModel", name := "goOn", desc := "(I)V" } : Jvm.MethodName)) ∈ gtbl := gw 657 (by decide +kernel) rfl
theorem k658 : (Jvm.Cond.code ({ cls := "BlinkMeshModel", name := "goOn", desc := "(I)V" } : Jvm.MethodName) prog_6_method_20_code (3 : Nat) (Option.none : Option Jvm.ClassFile.FieldType)) ∈ gtbl := gw 658 (by decide +kernel) rfl
theorem k659 : (Jvm.Cond.methodLink "BlinkMeshModel" (83 : Nat) ({ cls := "BlinkMeshModel", name := "tick", desc := "()I" } : Jvm.MethodName)) ∈ gtbl := gw 659 (by decide +kernel) rfl
theorem k661 : (Jvm.Cond.instanceMethod ({ cls := "BlinkMeshModel", name := "tick", desc := "()I" } : Jvm.MethodName)) ∈ gtbl := gw 661 (by decide +kernel) rfl
theorem k662 : (Jvm.Cond.code ({ cls := "BlinkMeshModel", name := "tick", desc := "()I" } : Jvm.MethodName) prog_6_method_19_code (4 : Nat) (Option.some Jvm.ClassFile.FieldType.int)) ∈ gtbl := gw 662 (by decide +kernel) rfl
theorem k663 : (Jvm.Cond.methodLink "BlinkMeshModel" (74 : Nat) ({ cls := "BlinkMeshModel", name := "grow", desc := "()V" } : Jvm.MethodName)) ∈ gtbl := gw 663 (by decide +kernel) rfl
theorem k665 : (Jvm.Cond.instanceMethod ({ cls := "BlinkMeshModel", name := "grow", desc := "()V" } : Jvm.MethodName)) ∈ gtbl := gw 665 (by decide +kernel) rfl
theorem k666 : (Jvm.Cond.code ({ cls := "BlinkMeshModel", name := "grow", desc := "()V" } : Jvm.MethodName) prog_6_method_16_code (2 : Nat) (Option.none : Option Jvm.ClassFile.FieldType)) ∈ gtbl := gw 666 (by decide +kernel) rfl
theorem k667 : (Jvm.Cond.methodLink "BlinkMeshModel" (77 : Nat) ({ cls := "BlinkMeshModel", name := "blink", desc := "(I)I" } : Jvm.MethodName)) ∈ gtbl := gw 667 (by decide +kernel) rfl
theorem k669 : (Jvm.Cond.instanceMethod ({ cls := "BlinkMeshModel", name := "blink", desc := "(I)I" } : Jvm.MethodName)) ∈ gtbl := gw 669 (by decide +kernel) rfl
theorem k670 : (Jvm.Cond.code ({ cls := "BlinkMeshModel", name := "blink", desc := "(I)I" } : Jvm.MethodName) prog_6_method_17_code (4 : Nat) (Option.some Jvm.ClassFile.FieldType.int)) ∈ gtbl := gw 670 (by decide +kernel) rfl
theorem k671 : (Jvm.Cond.methodLink "BlinkMeshModel" (80 : Nat) ({ cls := "BlinkMeshModel", name := "push", desc := "(II)I" } : Jvm.MethodName)) ∈ gtbl := gw 671 (by decide +kernel) rfl
theorem k673 : (Jvm.Cond.instanceMethod ({ cls := "BlinkMeshModel", name := "push", desc := "(II)I" } : Jvm.MethodName)) ∈ gtbl := gw 673 (by decide +kernel) rfl
theorem k674 : (Jvm.Cond.code ({ cls := "BlinkMeshModel", name := "push", desc := "(II)I" } : Jvm.MethodName) prog_6_method_18_code (8 : Nat) (Option.some Jvm.ClassFile.FieldType.int)) ∈ gtbl := gw 674 (by decide +kernel) rfl
theorem k675 : (Jvm.Cond.methodLink "BlinkMeshLaw" (50 : Nat) ({ cls := "BlinkMeshModel", name := "type", desc := "(C)I" } : Jvm.MethodName)) ∈ gtbl := gw 675 (by decide +kernel) rfl
theorem k676 : (Jvm.Cond.instanceMethod ({ cls := "BlinkMeshModel", name := "type", desc := "(C)I" } : Jvm.MethodName)) ∈ gtbl := gw 676 (by decide +kernel) rfl
theorem k677 : (Jvm.Cond.selects "BlinkMeshModel" ({ cls := "BlinkMeshModel", name := "type", desc := "(C)I" } : Jvm.MethodName) ({ cls := "BlinkMeshModel", name := "type", desc := "(C)I" } : Jvm.MethodName)) ∈ gtbl := gw 677 (by decide +kernel) rfl
theorem k678 : (Jvm.Cond.code ({ cls := "BlinkMeshModel", name := "type", desc := "(C)I" } : Jvm.MethodName) prog_6_method_36_code (2 : Nat) (Option.some Jvm.ClassFile.FieldType.int)) ∈ gtbl := gw 678 (by decide +kernel) rfl
theorem k679 : (Jvm.Cond.methodLink "BlinkMeshLaw" (55 : Nat) ({ cls := "BlinkMeshModel", name := "clearText", desc := "()I" } : Jvm.MethodName)) ∈ gtbl := gw 679 (by decide +kernel) rfl
theorem k680 : (Jvm.Cond.instanceMethod ({ cls := "BlinkMeshModel", name := "clearText", desc := "()I" } : Jvm.MethodName)) ∈ gtbl := gw 680 (by decide +kernel) rfl
theorem k681 : (Jvm.Cond.selects "BlinkMeshModel" ({ cls := "BlinkMeshModel", name := "clearText", desc := "()I" } : Jvm.MethodName) ({ cls := "BlinkMeshModel", name := "clearText", desc := "()I" } : Jvm.MethodName)) ∈ gtbl := gw 681 (by decide +kernel) rfl
theorem k682 : (Jvm.Cond.code ({ cls := "BlinkMeshModel", name := "clearText", desc := "()I" } : Jvm.MethodName) prog_6_method_37_code (2 : Nat) (Option.some Jvm.ClassFile.FieldType.int)) ∈ gtbl := gw 682 (by decide +kernel) rfl
theorem k683 : (Jvm.Cond.methodLink "BlinkMeshLaw" (59 : Nat) ({ cls := "BlinkMeshModel", name := "readMesh", desc := "()I" } : Jvm.MethodName)) ∈ gtbl := gw 683 (by decide +kernel) rfl
theorem k684 : (Jvm.Cond.instanceMethod ({ cls := "BlinkMeshModel", name := "readMesh", desc := "()I" } : Jvm.MethodName)) ∈ gtbl := gw 684 (by decide +kernel) rfl
theorem k685 : (Jvm.Cond.selects "BlinkMeshModel" ({ cls := "BlinkMeshModel", name := "readMesh", desc := "()I" } : Jvm.MethodName) ({ cls := "BlinkMeshModel", name := "readMesh", desc := "()I" } : Jvm.MethodName)) ∈ gtbl := gw 685 (by decide +kernel) rfl
theorem k686 : (Jvm.Cond.code ({ cls := "BlinkMeshModel", name := "readMesh", desc := "()I" } : Jvm.MethodName) prog_6_method_45_code (2 : Nat) (Option.some Jvm.ClassFile.FieldType.int)) ∈ gtbl := gw 686 (by decide +kernel) rfl
theorem k687 : (Jvm.Cond.methodLink "BlinkMeshModel" (147 : Nat) ({ cls := "BlinkMeshModel", name := "readText", desc := "()Z" } : Jvm.MethodName)) ∈ gtbl := gw 687 (by decide +kernel) rfl
theorem k689 : (Jvm.Cond.instanceMethod ({ cls := "BlinkMeshModel", name := "readText", desc := "()Z" } : Jvm.MethodName)) ∈ gtbl := gw 689 (by decide +kernel) rfl
theorem k690 : (Jvm.Cond.code ({ cls := "BlinkMeshModel", name := "readText", desc := "()Z" } : Jvm.MethodName) prog_6_method_44_code (2 : Nat) (Option.some Jvm.ClassFile.FieldType.boolean)) ∈ gtbl := gw 690 (by decide +kernel) rfl
theorem k691 : (Jvm.Cond.methodLink "BlinkMeshModel" (140 : Nat) ({ cls := "BlinkMeshModel", name := "readLamp", desc := "()Z" } : Jvm.MethodName)) ∈ gtbl := gw 691 (by decide +kernel) rfl
theorem k693 : (Jvm.Cond.instanceMethod ({ cls := "BlinkMeshModel", name := "readLamp", desc := "()Z" } : Jvm.MethodName)) ∈ gtbl := gw 693 (by decide +kernel) rfl
theorem k694 : (Jvm.Cond.code ({ cls := "BlinkMeshModel", name := "readLamp", desc := "()Z" } : Jvm.MethodName) prog_6_method_42_code (3 : Nat) (Option.some Jvm.ClassFile.FieldType.boolean)) ∈ gtbl := gw 694 (by decide +kernel) rfl
theorem k695 : (Jvm.Cond.methodLink "BlinkMeshModel" (131 : Nat) ({ cls := "BlinkMeshModel", name := "readNumber", desc := "(II)I" } : Jvm.MethodName)) ∈ gtbl := gw 695 (by decide +kernel) rfl
theorem k697 : (Jvm.Cond.instanceMethod ({ cls := "BlinkMeshModel", name := "readNumber", desc := "(II)I" } : Jvm.MethodName)) ∈ gtbl := gw 697 (by decide +kernel) rfl
theorem k698 : (Jvm.Cond.code ({ cls := "BlinkMeshModel", name := "readNumber", desc := "(II)I" } : Jvm.MethodName) prog_6_method_41_code (5 : Nat) (Option.some Jvm.ClassFile.FieldType.int)) ∈ gtbl := gw 698 (by decide +kernel) rfl
theorem k699 : (Jvm.Cond.methodLink "BlinkMeshModel" (125 : Nat) ({ cls := "BlinkMeshModel", name := "isNext", desc := "(II)Z" } : Jvm.MethodName)) ∈ gtbl := gw 699 (by decide +kernel) rfl
theorem k701 : (Jvm.Cond.instanceMethod ({ cls := "BlinkMeshModel", name := "isNext", desc := "(II)Z" } : Jvm.MethodName)) ∈ gtbl := gw 701 (by decide +kernel) rfl
theorem k702 : (Jvm.Cond.code ({ cls := "BlinkMeshModel", name := "isNext", desc := "(II)Z" } : Jvm.MethodName) prog_6_method_38_code (3 : Nat) (Option.some Jvm.ClassFile.FieldType.boolean)) ∈ gtbl := gw 702 (by decide +kernel) rfl
theorem k703 : (Jvm.Cond.methodLink "BlinkMeshModel" (128 : Nat) ({ cls := "BlinkMeshModel", name := "begins", desc := "(III)Z" } : Jvm.MethodName)) ∈ gtbl := gw 703 (by decide +kernel) rfl
theorem k704 : (Jvm.Cond.static ({ cls := "BlinkMeshModel", name := "begins", desc := "(III)Z" } : Jvm.MethodName)) ∈ gtbl := gw 704 (by decide +kernel) rfl
theorem k705 : (Jvm.Cond.code ({ cls := "BlinkMeshModel", name := "begins", desc := "(III)Z" } : Jvm.MethodName) prog_6_method_40_code (5 : Nat) (Option.some Jvm.ClassFile.FieldType.boolean)) ∈ gtbl := gw 705 (by decide +kernel) rfl
theorem k706 : (Jvm.Cond.methodLink "BlinkMeshModel" (137 : Nat) ({ cls := "BlinkMeshModel", name := "takes", desc := "(I)Z" } : Jvm.MethodName)) ∈ gtbl := gw 706 (by decide +kernel) rfl
theorem k708 : (Jvm.Cond.instanceMethod ({ cls := "BlinkMeshModel", name := "takes", desc := "(I)Z" } : Jvm.MethodName)) ∈ gtbl := gw 708 (by decide +kernel) rfl
theorem k709 : (Jvm.Cond.code ({ cls := "BlinkMeshModel", name := "takes", desc := "(I)Z" } : Jvm.MethodName) prog_6_method_39_code (3 : Nat) (Option.some Jvm.ClassFile.FieldType.boolean)) ∈ gtbl := gw 709 (by decide +kernel) rfl
theorem k710 : (Jvm.Cond.methodLink "BlinkMeshModel" (144 : Nat) ({ cls := "BlinkMeshModel", name := "readLink", desc := "()Z" } : Jvm.MethodName)) ∈ gtbl := gw 710 (by decide +kernel) rfl
theorem k712 : (Jvm.Cond.instanceMethod ({ cls := "BlinkMeshModel", name := "readLink", desc := "()Z" } : Jvm.MethodName)) ∈ gtbl := gw 712 (by decide +kernel) rfl
theorem k713 : (Jvm.Cond.code ({ cls := "BlinkMeshModel", name := "readLink", desc := "()Z" } : Jvm.MethodName) prog_6_method_43_code (3 : Nat) (Option.some Jvm.ClassFile.FieldType.boolean)) ∈ gtbl := gw 713 (by decide +kernel) rfl
theorem k714 : (Jvm.Cond.methodLink "BlinkMeshLaw" (63 : Nat) ({ cls := "BlinkMeshModel", name := "undo", desc := "()I" } : Jvm.MethodName)) ∈ gtbl := gw 714 (by decide +kernel) rfl
theorem k715 : (Jvm.Cond.instanceMethod ({ cls := "BlinkMeshModel", name := "undo", desc := "()I" } : Jvm.MethodName)) ∈ gtbl := gw 715 (by decide +kernel) rfl
theorem k716 : (Jvm.Cond.selects "BlinkMeshModel" ({ cls := "BlinkMeshModel", name := "undo", desc := "()I" } : Jvm.MethodName) ({ cls := "BlinkMeshModel", name := "undo", desc := "()I" } : Jvm.MethodName)) ∈ gtbl := gw 716 (by decide +kernel) rfl
theorem k717 : (Jvm.Cond.code ({ cls := "BlinkMeshModel", name := "undo", desc := "()I" } : Jvm.MethodName) prog_6_method_46_code (1 : Nat) (Option.some Jvm.ClassFile.FieldType.int)) ∈ gtbl := gw 717 (by decide +kernel) rfl
theorem k718 : (Jvm.Cond.methodLink "BlinkMeshLaw" (67 : Nat) ({ cls := "BlinkMeshModel", name := "keep", desc := "()I" } : Jvm.MethodName)) ∈ gtbl := gw 718 (by decide +kernel) rfl
theorem k719 : (Jvm.Cond.instanceMethod ({ cls := "BlinkMeshModel", name := "keep", desc := "()I" } : Jvm.MethodName)) ∈ gtbl := gw 719 (by decide +kernel) rfl
theorem k720 : (Jvm.Cond.selects "BlinkMeshModel" ({ cls := "BlinkMeshModel", name := "keep", desc := "()I" } : Jvm.MethodName) ({ cls := "BlinkMeshModel", name := "keep", desc := "()I" } : Jvm.MethodName)) ∈ gtbl := gw 720 (by decide +kernel) rfl
theorem k721 : (Jvm.Cond.code ({ cls := "BlinkMeshModel", name := "keep", desc := "()I" } : Jvm.MethodName) prog_6_method_47_code (1 : Nat) (Option.some Jvm.ClassFile.FieldType.int)) ∈ gtbl := gw 721 (by decide +kernel) rfl
theorem k722 : (Jvm.Cond.methodLink "BlinkMeshLaw" (71 : Nat) ({ cls := "BlinkMeshModel", name := "restore", desc := "()I" } : Jvm.MethodName)) ∈ gtbl := gw 722 (by decide +kernel) rfl
theorem k723 : (Jvm.Cond.instanceMethod ({ cls := "BlinkMeshModel", name := "restore", desc := "()I" } : Jvm.MethodName)) ∈ gtbl := gw 723 (by decide +kernel) rfl
theorem k724 : (Jvm.Cond.selects "BlinkMeshModel" ({ cls := "BlinkMeshModel", name := "restore", desc := "()I" } : Jvm.MethodName) ({ cls := "BlinkMeshModel", name := "restore", desc := "()I" } : Jvm.MethodName)) ∈ gtbl := gw 724 (by decide +kernel) rfl
theorem k725 : (Jvm.Cond.code ({ cls := "BlinkMeshModel", name := "restore", desc := "()I" } : Jvm.MethodName) prog_6_method_48_code (1 : Nat) (Option.some Jvm.ClassFile.FieldType.int)) ∈ gtbl := gw 725 (by decide +kernel) rfl
theorem k726 : (Jvm.Cond.methodLink "BlinkMeshLaw" (75 : Nat) ({ cls := "BlinkMeshModel", name := "lamp", desc := "(II)I" } : Jvm.MethodName)) ∈ gtbl := gw 726 (by decide +kernel) rfl
theorem k727 : (Jvm.Cond.instanceMethod ({ cls := "BlinkMeshModel", name := "lamp", desc := "(II)I" } : Jvm.MethodName)) ∈ gtbl := gw 727 (by decide +kernel) rfl
theorem k728 : (Jvm.Cond.selects "BlinkMeshModel" ({ cls := "BlinkMeshModel", name := "lamp", desc := "(II)I" } : Jvm.MethodName) ({ cls := "BlinkMeshModel", name := "lamp", desc := "(II)I" } : Jvm.MethodName)) ∈ gtbl := gw 728 (by decide +kernel) rfl
theorem k729 : (Jvm.Cond.code ({ cls := "BlinkMeshModel", name := "lamp", desc := "(II)I" } : Jvm.MethodName) prog_6_method_49_code (3 : Nat) (Option.some Jvm.ClassFile.FieldType.int)) ∈ gtbl := gw 729 (by decide +kernel) rfl
theorem k730 : (Jvm.Cond.methodLink "BlinkMeshModel" (89 : Nat) ({ cls := "BlinkMeshModel", name := "pieceOf", desc := "(I)I" } : Jvm.MethodName)) ∈ gtbl := gw 730 (by decide +kernel) rfl
theorem k732 : (Jvm.Cond.instanceMethod ({ cls := "BlinkMeshModel", name := "pieceOf", desc := "(I)I" } : Jvm.MethodName)) ∈ gtbl := gw 732 (by decide +kernel) rfl
theorem k733 : (Jvm.Cond.code ({ cls := "BlinkMeshModel", name := "pieceOf", desc := "(I)I" } : Jvm.MethodName) prog_6_method_21_code (6 : Nat) (Option.some Jvm.ClassFile.FieldType.int)) ∈ gtbl := gw 733 (by decide +kernel) rfl
theorem k734 : (Jvm.Cond.methodLink "BlinkMeshModel" (154 : Nat) ({ cls := "BlinkMeshModel", name := "agreeing", desc := "(I)I" } : Jvm.MethodName)) ∈ gtbl := gw 734 (by decide +kernel) rfl
theorem k736 : (Jvm.Cond.instanceMethod ({ cls := "BlinkMeshModel", name := "agreeing", desc := "(I)I" } : Jvm.MethodName)) ∈ gtbl := gw 736 (by decide +kernel) rfl
theorem k737 : (Jvm.Cond.code ({ cls := "BlinkMeshModel", name := "agreeing", desc := "(I)I" } : Jvm.MethodName) prog_6_method_23_code (4 : Nat) (Option.some Jvm.ClassFile.FieldType.int)) ∈ gtbl := gw 737 (by decide +kernel) rfl
theorem k738 : (Jvm.Cond.methodLink "BlinkMeshLaw" (79 : Nat) ({ cls := "BlinkMeshModel", name := "apart", desc := "(II)I" } : Jvm.MethodName)) ∈ gtbl := gw 738 (by decide +kernel) rfl
theorem k739 : (Jvm.Cond.instanceMethod ({ cls := "BlinkMeshModel", name := "apart", desc := "(II)I" } : Jvm.MethodName)) ∈ gtbl := gw 739 (by decide +kernel) rfl
theorem k740 : (Jvm.Cond.selects "BlinkMeshModel" ({ cls := "BlinkMeshModel", name := "apart", desc := "(II)I" } : Jvm.MethodName) ({ cls := "BlinkMeshModel", name := "apart", desc := "(II)I" } : Jvm.MethodName)) ∈ gtbl := gw 740 (by decide +kernel) rfl
theorem k741 : (Jvm.Cond.code ({ cls := "BlinkMeshModel", name := "apart", desc := "(II)I" } : Jvm.MethodName) prog_6_method_50_code (3 : Nat) (Option.some Jvm.ClassFile.FieldType.int)) ∈ gtbl := gw 741 (by decide +kernel) rfl
theorem k742 : (Jvm.Cond.methodLink "BlinkMeshModel" (92 : Nat) ({ cls := "BlinkMeshModel", name := "distance", desc := "(II)I" } : Jvm.MethodName)) ∈ gtbl := gw 742 (by decide +kernel) rfl
theorem k744 : (Jvm.Cond.instanceMethod ({ cls := "BlinkMeshModel", name := "distance", desc := "(II)I" } : Jvm.MethodName)) ∈ gtbl := gw 744 (by decide +kernel) rfl
theorem k745 : (Jvm.Cond.code ({ cls := "BlinkMeshModel", name := "distance", desc := "(II)I" } : Jvm.MethodName) prog_6_method_24_code (4 : Nat) (Option.some Jvm.ClassFile.FieldType.int)) ∈ gtbl := gw 745 (by decide +kernel) rfl
theorem k746 : (Jvm.Cond.methodLink "BlinkMeshLaw" (83 : Nat) ({ cls := "BlinkMeshModel", name := "next", desc := "(I)I" } : Jvm.MethodName)) ∈ gtbl := gw 746 (by decide +kernel) rfl
theorem k747 : (Jvm.Cond.instanceMethod ({ cls := "BlinkMeshModel", name := "next", desc := "(I)I" } : Jvm.MethodName)) ∈ gtbl := gw 747 (by decide +kernel) rfl
theorem k748 : (Jvm.Cond.selects "BlinkMeshModel" ({ cls := "BlinkMeshModel", name := "next", desc := "(I)I" } : Jvm.MethodName) ({ cls := "BlinkMeshModel", name := "next", desc := "(I)I" } : Jvm.MethodName)) ∈ gtbl := gw 748 (by decide +kernel) rfl
theorem k749 : (Jvm.Cond.code ({ cls := "BlinkMeshModel", name := "next", desc := "(I)I" } : Jvm.MethodName) prog_6_method_51_code (4 : Nat) (Option.some Jvm.ClassFile.FieldType.int)) ∈ gtbl := gw 749 (by decide +kernel) rfl
theorem k750 : (Jvm.Cond.methodLink "BlinkMeshLaw" (87 : Nat) ({ cls := "BlinkMeshModel", name := "togetherIn", desc := "()I" } : Jvm.MethodName)) ∈ gtbl := gw 750 (by decide +kernel) rfl
theorem k751 : (Jvm.Cond.instanceMethod ({ cls := "BlinkMeshModel", name := "togetherIn", desc := "()I" } : Jvm.MethodName)) ∈ gtbl := gw 751 (by decide +kernel) rfl
theorem k752 : (Jvm.Cond.selects "BlinkMeshModel" ({ cls := "BlinkMeshModel", name := "togetherIn", desc := "()I" } : Jvm.MethodName) ({ cls := "BlinkMeshModel", name := "togetherIn", desc := "()I" } : Jvm.MethodName)) ∈ gtbl := gw 752 (by decide +kernel) rfl
theorem k753 : (Jvm.Cond.code ({ cls := "BlinkMeshModel", name := "togetherIn", desc := "()I" } : Jvm.MethodName) prog_6_method_53_code (2 : Nat) (Option.some Jvm.ClassFile.FieldType.int)) ∈ gtbl := gw 753 (by decide +kernel) rfl
theorem k754 : (Jvm.Cond.methodLink "BlinkMeshModel" (160 : Nat) ({ cls := "BlinkMeshModel", name := "untilTogether", desc := "()I" } : Jvm.MethodName)) ∈ gtbl := gw 754 (by decide +kernel) rfl
theorem k756 : (Jvm.Cond.instanceMethod ({ cls := "BlinkMeshModel", name := "untilTogether", desc := "()I" } : Jvm.MethodName)) ∈ gtbl := gw 756 (by decide +kernel) rfl
theorem k757 : (Jvm.Cond.code ({ cls := "BlinkMeshModel", name := "untilTogether", desc := "()I" } : Jvm.MethodName) prog_6_method_52_code (2 : Nat) (Option.some Jvm.ClassFile.FieldType.int)) ∈ gtbl := gw 757 (by decide +kernel) rfl
theorem k758 : (Jvm.Cond.methodLink "BlinkMeshModel" (157 : Nat) ({ cls := "BlinkMeshModel", name := "isTogether", desc := "()Z" } : Jvm.MethodName)) ∈ gtbl := gw 758 (by decide +kernel) rfl
theorem k760 : (Jvm.Cond.instanceMethod ({ cls := "BlinkMeshModel", name := "isTogether", desc := "()Z" } : Jvm.MethodName)) ∈ gtbl := gw 760 (by decide +kernel) rfl
theorem k761 : (Jvm.Cond.code ({ cls := "BlinkMeshModel", name := "isTogether", desc := "()Z" } : Jvm.MethodName) prog_6_method_26_code (1 : Nat) (Option.some Jvm.ClassFile.FieldType.boolean)) ∈ gtbl := gw 761 (by decide +kernel) rfl
theorem k762 : (Jvm.Cond.methodLink "BlinkMeshModel" (95 : Nat) ({ cls := "BlinkMeshModel", name := "greatestDistance", desc := "()I" } : Jvm.MethodName)) ∈ gtbl := gw 762 (by decide +kernel) rfl
theorem k764 : (Jvm.Cond.instanceMethod ({ cls := "BlinkMeshModel", name := "greatestDistance", desc := "()I" } : Jvm.MethodName)) ∈ gtbl := gw 764 (by decide +kernel) rfl
theorem k765 : (Jvm.Cond.code ({ cls := "BlinkMeshModel", name := "greatestDistance", desc := "()I" } : Jvm.MethodName) prog_6_method_25_code (4 : Nat) (Option.some Jvm.ClassFile.FieldType.int)) ∈ gtbl := gw 765 (by decide +kernel) rfl
theorem k766 : (Jvm.Cond.methodLink "BlinkMeshLaw" (91 : Nat) ({ cls := "BlinkMeshModel", name := "reason", desc := "()I" } : Jvm.MethodName)) ∈ gtbl := gw 766 (by decide +kernel) rfl
theorem k767 : (Jvm.Cond.instanceMethod ({ cls := "BlinkMeshModel", name := "reason", desc := "()I" } : Jvm.MethodName)) ∈ gtbl := gw 767 (by decide +kernel) rfl
theorem k768 : (Jvm.Cond.selects "BlinkMeshModel" ({ cls := "BlinkMeshModel", name := "reason", desc := "()I" } : Jvm.MethodName) ({ cls := "BlinkMeshModel", name := "reason", desc := "()I" } : Jvm.MethodName)) ∈ gtbl := gw 768 (by decide +kernel) rfl
theorem k769 : (Jvm.Cond.code ({ cls := "BlinkMeshModel", name := "reason", desc := "()I" } : Jvm.MethodName) prog_6_method_55_code (1 : Nat) (Option.some Jvm.ClassFile.FieldType.int)) ∈ gtbl := gw 769 (by decide +kernel) rfl
theorem k770 : (Jvm.Cond.methodLink "BlinkMeshModel" (163 : Nat) ({ cls := "BlinkMeshModel", name := "pieces", desc := "()I" } : Jvm.MethodName)) ∈ gtbl := gw 770 (by decide +kernel) rfl
theorem k772 : (Jvm.Cond.instanceMethod ({ cls := "BlinkMeshModel", name := "pieces", desc := "()I" } : Jvm.MethodName)) ∈ gtbl := gw 772 (by decide +kernel) rfl
theorem k773 : (Jvm.Cond.code ({ cls := "BlinkMeshModel", name := "pieces", desc := "()I" } : Jvm.MethodName) prog_6_method_22_code (4 : Nat) (Option.some Jvm.ClassFile.FieldType.int)) ∈ gtbl := gw 773 (by decide +kernel) rfl
theorem k774 : (Jvm.Cond.methodLink "BlinkMeshModel" (166 : Nat) ({ cls := "BlinkMeshModel", name := "areRatesUnlike", desc := "()Z" } : Jvm.MethodName)) ∈ gtbl := gw 774 (by decide +kernel) rfl
theorem k776 : (Jvm.Cond.instanceMethod ({ cls := "BlinkMeshModel", name := "areRatesUnlike", desc := "()Z" } : Jvm.MethodName)) ∈ gtbl := gw 776 (by decide +kernel) rfl
theorem k777 : (Jvm.Cond.code ({ cls := "BlinkMeshModel", name := "areRatesUnlike", desc := "()Z" } : Jvm.MethodName) prog_6_method_54_code (4 : Nat) (Option.some Jvm.ClassFile.FieldType.boolean)) ∈ gtbl := gw 777 (by decide +kernel) rfl
theorem k778 : (Jvm.Cond.methodLink "BlinkMeshLaw" (95 : Nat) ({ cls := "BlinkMeshModel", name := "spread", desc := "()I" } : Jvm.MethodName)) ∈ gtbl := gw 778 (by decide +kernel) rfl
theorem k779 : (Jvm.Cond.instanceMethod ({ cls := "BlinkMeshModel", name := "spread", desc := "()I" } : Jvm.MethodName)) ∈ gtbl := gw 779 (by decide +kernel) rfl
theorem k780 : (Jvm.Cond.selects "BlinkMeshModel" ({ cls := "BlinkMeshModel", name := "spread", desc := "()I" } : Jvm.MethodName) ({ cls := "BlinkMeshModel", name := "spread", desc := "()I" } : Jvm.MethodName)) ∈ gtbl := gw 780 (by decide +kernel) rfl
theorem k781 : (Jvm.Cond.code ({ cls := "BlinkMeshModel", name := "spread", desc := "()I" } : Jvm.MethodName) prog_6_method_56_code (1 : Nat) (Option.some Jvm.ClassFile.FieldType.int)) ∈ gtbl := gw 781 (by decide +kernel) rfl
theorem k782 : (Jvm.Cond.methodLink "BlinkMeshLaw" (99 : Nat) ({ cls := "BlinkMeshModel", name := "ifLinked", desc := "(II)I" } : Jvm.MethodName)) ∈ gtbl := gw 782 (by decide +kernel) rfl
theorem k783 : (Jvm.Cond.instanceMethod ({ cls := "BlinkMeshModel", name := "ifLinked", desc := "(II)I" } : Jvm.MethodName)) ∈ gtbl := gw 783 (by decide +kernel) rfl
theorem k784 : (Jvm.Cond.selects "BlinkMeshModel" ({ cls := "BlinkMeshModel", name := "ifLinked", desc := "(II)I" } : Jvm.MethodName) ({ cls := "BlinkMeshModel", name := "ifLinked", desc := "(II)I" } : Jvm.MethodName)) ∈ gtbl := gw 784 (by decide +kernel) rfl
theorem k785 : (Jvm.Cond.code ({ cls := "BlinkMeshModel", name := "ifLinked", desc := "(II)I" } : Jvm.MethodName) prog_6_method_57_code (4 : Nat) (Option.some Jvm.ClassFile.FieldType.int)) ∈ gtbl := gw 785 (by decide +kernel) rfl
theorem k786 : (Jvm.Cond.methodLink "BlinkMeshLaw" (103 : Nat) ({ cls := "BlinkMeshModel", name := "hub", desc := "()I" } : Jvm.MethodName)) ∈ gtbl := gw 786 (by decide +kernel) rfl
theorem k787 : (Jvm.Cond.instanceMethod ({ cls := "BlinkMeshModel", name := "hub", desc := "()I" } : Jvm.MethodName)) ∈ gtbl := gw 787 (by decide +kernel) rfl
theorem k788 : (Jvm.Cond.selects "BlinkMeshModel" ({ cls := "BlinkMeshModel", name := "hub", desc := "()I" } : Jvm.MethodName) ({ cls := "BlinkMeshModel", name := "hub", desc := "()I" } : Jvm.MethodName)) ∈ gtbl := gw 788 (by decide +kernel) rfl
theorem k789 : (Jvm.Cond.code ({ cls := "BlinkMeshModel", name := "hub", desc := "()I" } : Jvm.MethodName) prog_6_method_58_code (4 : Nat) (Option.some Jvm.ClassFile.FieldType.int)) ∈ gtbl := gw 789 (by decide +kernel) rfl
theorem k790 : (Jvm.Cond.methodLink "BlinkMeshLaw" (107 : Nat) ({ cls := "BlinkMeshModel", name := "bestLink", desc := "(I)I" } : Jvm.MethodName)) ∈ gtbl := gw 790 (by decide +kernel) rfl
theorem k791 : (Jvm.Cond.instanceMethod ({ cls := "BlinkMeshModel", name := "bestLink", desc := "(I)I" } : Jvm.MethodName)) ∈ gtbl := gw 791 (by decide +kernel) rfl
theorem k792 : (Jvm.Cond.selects "BlinkMeshModel" ({ cls := "BlinkMeshModel", name := "bestLink", desc := "(I)I" } : Jvm.MethodName) ({ cls := "BlinkMeshModel", name := "bestLink", desc := "(I)I" } : Jvm.MethodName)) ∈ gtbl := gw 792 (by decide +kernel) rfl
theorem k793 : (Jvm.Cond.code ({ cls := "BlinkMeshModel", name := "bestLink", desc := "(I)I" } : Jvm.MethodName) prog_6_method_59_code (9 : Nat) (Option.some Jvm.ClassFile.FieldType.int)) ∈ gtbl := gw 793 (by decide +kernel) rfl
theorem k794 : (Jvm.Cond.methodLink "BlinkMeshLaw" (111 : Nat) ({ cls := "BlinkMeshModel", name := "count", desc := "(I)I" } : Jvm.MethodName)) ∈ gtbl := gw 794 (by decide +kernel) rfl
theorem k795 : (Jvm.Cond.instanceMethod ({ cls := "BlinkMeshModel", name := "count", desc := "(I)I" } : Jvm.MethodName)) ∈ gtbl := gw 795 (by decide +kernel) rfl
theorem k796 : (Jvm.Cond.selects "BlinkMeshModel" ({ cls := "BlinkMeshModel", name := "count", desc := "(I)I" } : Jvm.MethodName) ({ cls := "BlinkMeshModel", name := "count", desc := "(I)I" } : Jvm.MethodName)) ∈ gtbl := gw 796 (by decide +kernel) rfl
theorem k797 : (Jvm.Cond.code ({ cls := "BlinkMeshModel", name := "count", desc := "(I)I" } : Jvm.MethodName) prog_6_method_60_code (2 : Nat) (Option.some Jvm.ClassFile.FieldType.int)) ∈ gtbl := gw 797 (by decide +kernel) rfl
theorem kp0 : Cond.selects "BlinkMesh$History" ⟨"BlinkMesh$History", "dropOldest", "()V"⟩ ⟨"BlinkMesh$History", "dropOldest", "()V"⟩ ∈ gtbl := gwp 0 (by decide +kernel) rfl
theorem kp1 : Cond.selects "BlinkMesh$Mesh" ⟨"BlinkMesh$Mesh", "fullPhase", "()I"⟩ ⟨"BlinkMesh$Mesh", "fullPhase", "()I"⟩ ∈ gtbl := gwp 1 (by decide +kernel) rfl
theorem kp2 : Cond.selects "BlinkMesh$Mesh" ⟨"BlinkMesh$Mesh", "grow", "()I"⟩ ⟨"BlinkMesh$Mesh", "grow", "()I"⟩ ∈ gtbl := gwp 2 (by decide +kernel) rfl
theorem kp3 : Cond.selects "BlinkMesh$Mesh" ⟨"BlinkMesh$Mesh", "blink", "(I)V"⟩ ⟨"BlinkMesh$Mesh", "blink", "(I)V"⟩ ∈ gtbl := gwp 3 (by decide +kernel) rfl
theorem kp4 : Cond.selects "BlinkMesh$Mesh" ⟨"BlinkMesh$Mesh", "pushFrom", "(II)I"⟩ ⟨"BlinkMesh$Mesh", "pushFrom", "(II)I"⟩ ∈ gtbl := gwp 4 (by decide +kernel) rfl
theorem kp5 : Cond.selects "BlinkMesh$Mesh" ⟨"BlinkMesh$Mesh", "pushAll", "(I)I"⟩ ⟨"BlinkMesh$Mesh", "pushAll", "(I)I"⟩ ∈ gtbl := gwp 5 (by decide +kernel) rfl
theorem kp6 : Cond.selects "BlinkMesh$Mesh" ⟨"BlinkMesh$Mesh", "account", "(I)V"⟩ ⟨"BlinkMesh$Mesh", "account", "(I)V"⟩ ∈ gtbl := gwp 6 (by decide +kernel) rfl
theorem kp7 : Cond.selects "BlinkMesh$MeshText" ⟨"BlinkMesh$MeshText", "parseLamps", "()Z"⟩ ⟨"BlinkMesh$MeshText", "parseLamps", "()Z"⟩ ∈ gtbl := gwp 7 (by decide +kernel) rfl
theorem kp8 : Cond.selects "BlinkMesh$MeshText" ⟨"BlinkMesh$MeshText", "parseLamp", "(I)Z"⟩ ⟨"BlinkMesh$MeshText", "parseLamp", "(I)Z"⟩ ∈ gtbl := gwp 8 (by decide +kernel) rfl
theorem kp9 : Cond.selects "BlinkMesh$MeshText" ⟨"BlinkMesh$MeshText", "parseNumber", "(II)I"⟩ ⟨"BlinkMesh$MeshText", "parseNumber", "(II)I"⟩ ∈ gtbl := gwp 9 (by decide +kernel) rfl
theorem kp10 : Cond.selects "BlinkMesh$MeshText" ⟨"BlinkMesh$MeshText", "current", "()I"⟩ ⟨"BlinkMesh$MeshText", "current", "()I"⟩ ∈ gtbl := gwp 10 (by decide +kernel) rfl
theorem kp11 : Cond.selects "BlinkMesh$MeshText" ⟨"BlinkMesh$MeshText", "skip", "(C)Z"⟩ ⟨"BlinkMesh$MeshText", "skip", "(C)Z"⟩ ∈ gtbl := gwp 11 (by decide +kernel) rfl
theorem kp12 : Cond.selects "BlinkMesh$MeshText" ⟨"BlinkMesh$MeshText", "parseLinks", "()Z"⟩ ⟨"BlinkMesh$MeshText", "parseLinks", "()Z"⟩ ∈ gtbl := gwp 12 (by decide +kernel) rfl
theorem kp13 : Cond.selects "BlinkMesh$MeshText" ⟨"BlinkMesh$MeshText", "parseLink", "()Z"⟩ ⟨"BlinkMesh$MeshText", "parseLink", "()Z"⟩ ∈ gtbl := gwp 13 (by decide +kernel) rfl
theorem kp14 : Cond.selects "BlinkMesh$MeshText" ⟨"BlinkMesh$MeshText", "parseLetter", "(I)I"⟩ ⟨"BlinkMesh$MeshText", "parseLetter", "(I)I"⟩ ∈ gtbl := gwp 14 (by decide +kernel) rfl
theorem kp15 : Cond.selects "BlinkMesh$Mesh" ⟨"BlinkMesh$Mesh", "pieceOf", "(I)I"⟩ ⟨"BlinkMesh$Mesh", "pieceOf", "(I)I"⟩ ∈ gtbl := gwp 15 (by decide +kernel) rfl
theorem kp16 : Cond.selects "BlinkMesh$Mesh" ⟨"BlinkMesh$Mesh", "neighbours", "(I)I"⟩ ⟨"BlinkMesh$Mesh", "neighbours", "(I)I"⟩ ∈ gtbl := gwp 16 (by decide +kernel) rfl
theorem kp17 : Cond.selects "BlinkMesh$Mesh" ⟨"BlinkMesh$Mesh", "agreeing", "(I)I"⟩ ⟨"BlinkMesh$Mesh", "agreeing", "(I)I"⟩ ∈ gtbl := gwp 17 (by decide +kernel) rfl
theorem kp18 : Cond.selects "BlinkMesh" ⟨"BlinkMesh", "trialTogetherIn", "()I"⟩ ⟨"BlinkMesh", "trialTogetherIn", "()I"⟩ ∈ gtbl := gwp 18 (by decide +kernel) rfl
theorem kp19 : Cond.selects "BlinkMesh" ⟨"BlinkMesh", "spreadWith", "(II)I"⟩ ⟨"BlinkMesh", "spreadWith", "(II)I"⟩ ∈ gtbl := gwp 19 (by decide +kernel) rfl
theorem kp20 : Cond.selects "BlinkMeshModel" ⟨"BlinkMeshModel", "of", "(II)I"⟩ ⟨"BlinkMeshModel", "of", "(II)I"⟩ ∈ gtbl := gwp 20 (by decide +kernel) rfl
theorem kp21 : Cond.selects "BlinkMeshModel" ⟨"BlinkMeshModel", "record", "()V"⟩ ⟨"BlinkMeshModel", "record", "()V"⟩ ∈ gtbl := gwp 21 (by decide +kernel) rfl
theorem kp22 : Cond.selects "BlinkMeshModel" ⟨"BlinkMeshModel", "lay", "(III)V"⟩ ⟨"BlinkMeshModel", "lay", "(III)V"⟩ ∈ gtbl := gwp 22 (by decide +kernel) rfl
theorem kp23 : Cond.selects "BlinkMeshModel" ⟨"BlinkMeshModel", "put", "(III)V"⟩ ⟨"BlinkMeshModel", "put", "(III)V"⟩ ∈ gtbl := gwp 23 (by decide +kernel) rfl
theorem kp24 : Cond.selects "BlinkMeshModel" ⟨"BlinkMeshModel", "round", "()I"⟩ ⟨"BlinkMeshModel", "round", "()I"⟩ ∈ gtbl := gwp 24 (by decide +kernel) rfl
theorem kp25 : Cond.selects "BlinkMeshModel" ⟨"BlinkMeshModel", "isLamp", "(I)Z"⟩ ⟨"BlinkMeshModel", "isLamp", "(I)Z"⟩ ∈ gtbl := gwp 25 (by decide +kernel) rfl
theorem kp26 : Cond.selects "BlinkMeshModel" ⟨"BlinkMeshModel", "isOn", "(I)Z"⟩ ⟨"BlinkMeshModel", "isOn", "(I)Z"⟩ ∈ gtbl := gwp 26 (by decide +kernel) rfl
theorem kp27 : Cond.selects "BlinkMeshModel" ⟨"BlinkMeshModel", "lampsOn", "()I"⟩ ⟨"BlinkMeshModel", "lampsOn", "()I"⟩ ∈ gtbl := gwp 27 (by decide +kernel) rfl
theorem kp28 : Cond.selects "BlinkMeshModel" ⟨"BlinkMeshModel", "setOf", "(I)I"⟩ ⟨"BlinkMeshModel", "setOf", "(I)I"⟩ ∈ gtbl := gwp 28 (by decide +kernel) rfl
theorem kp29 : Cond.selects "BlinkMeshModel" ⟨"BlinkMeshModel", "connect", "(IIZ)V"⟩ ⟨"BlinkMeshModel", "connect", "(IIZ)V"⟩ ∈ gtbl := gwp 29 (by decide +kernel) rfl
theorem kp30 : Cond.selects "BlinkMeshModel" ⟨"BlinkMeshModel", "links", "()I"⟩ ⟨"BlinkMeshModel", "links", "()I"⟩ ∈ gtbl := gwp 30 (by decide +kernel) rfl
theorem kp31 : Cond.selects "BlinkMeshModel" ⟨"BlinkMeshModel", "goOn", "(I)V"⟩ ⟨"BlinkMeshModel", "goOn", "(I)V"⟩ ∈ gtbl := gwp 31 (by decide +kernel) rfl
theorem kp32 : Cond.selects "BlinkMeshModel" ⟨"BlinkMeshModel", "tick", "()I"⟩ ⟨"BlinkMeshModel", "tick", "()I"⟩ ∈ gtbl := gwp 32 (by decide +kernel) rfl
theorem kp33 : Cond.selects "BlinkMeshModel" ⟨"BlinkMeshModel", "grow", "()V"⟩ ⟨"BlinkMeshModel", "grow", "()V"⟩ ∈ gtbl := gwp 33 (by decide +kernel) rfl
theorem kp34 : Cond.selects "BlinkMeshModel" ⟨"BlinkMeshModel", "blink", "(I)I"⟩ ⟨"BlinkMeshModel", "blink", "(I)I"⟩ ∈ gtbl := gwp 34 (by decide +kernel) rfl
theorem kp35 : Cond.selects "BlinkMeshModel" ⟨"BlinkMeshModel", "push", "(II)I"⟩ ⟨"BlinkMeshModel", "push", "(II)I"⟩ ∈ gtbl := gwp 35 (by decide +kernel) rfl
theorem kp36 : Cond.selects "BlinkMeshModel" ⟨"BlinkMeshModel", "readText", "()Z"⟩ ⟨"BlinkMeshModel", "readText", "()Z"⟩ ∈ gtbl := gwp 36 (by decide +kernel) rfl
theorem kp37 : Cond.selects "BlinkMeshModel" ⟨"BlinkMeshModel", "readLamp", "()Z"⟩ ⟨"BlinkMeshModel", "readLamp", "()Z"⟩ ∈ gtbl := gwp 37 (by decide +kernel) rfl
theorem kp38 : Cond.selects "BlinkMeshModel" ⟨"BlinkMeshModel", "readNumber", "(II)I"⟩ ⟨"BlinkMeshModel", "readNumber", "(II)I"⟩ ∈ gtbl := gwp 38 (by decide +kernel) rfl
theorem kp39 : Cond.selects "BlinkMeshModel" ⟨"BlinkMeshModel", "isNext", "(II)Z"⟩ ⟨"BlinkMeshModel", "isNext", "(II)Z"⟩ ∈ gtbl := gwp 39 (by decide +kernel) rfl
theorem kp40 : Cond.selects "BlinkMeshModel" ⟨"BlinkMeshModel", "takes", "(I)Z"⟩ ⟨"BlinkMeshModel", "takes", "(I)Z"⟩ ∈ gtbl := gwp 40 (by decide +kernel) rfl
theorem kp41 : Cond.selects "BlinkMeshModel" ⟨"BlinkMeshModel", "readLink", "()Z"⟩ ⟨"BlinkMeshModel", "readLink", "()Z"⟩ ∈ gtbl := gwp 41 (by decide +kernel) rfl
theorem kp42 : Cond.selects "BlinkMeshModel" ⟨"BlinkMeshModel", "pieceOf", "(I)I"⟩ ⟨"BlinkMeshModel", "pieceOf", "(I)I"⟩ ∈ gtbl := gwp 42 (by decide +kernel) rfl
theorem kp43 : Cond.selects "BlinkMeshModel" ⟨"BlinkMeshModel", "agreeing", "(I)I"⟩ ⟨"BlinkMeshModel", "agreeing", "(I)I"⟩ ∈ gtbl := gwp 43 (by decide +kernel) rfl
theorem kp44 : Cond.selects "BlinkMeshModel" ⟨"BlinkMeshModel", "distance", "(II)I"⟩ ⟨"BlinkMeshModel", "distance", "(II)I"⟩ ∈ gtbl := gwp 44 (by decide +kernel) rfl
theorem kp45 : Cond.selects "BlinkMeshModel" ⟨"BlinkMeshModel", "untilTogether", "()I"⟩ ⟨"BlinkMeshModel", "untilTogether", "()I"⟩ ∈ gtbl := gwp 45 (by decide +kernel) rfl
theorem kp46 : Cond.selects "BlinkMeshModel" ⟨"BlinkMeshModel", "isTogether", "()Z"⟩ ⟨"BlinkMeshModel", "isTogether", "()Z"⟩ ∈ gtbl := gwp 46 (by decide +kernel) rfl
theorem kp47 : Cond.selects "BlinkMeshModel" ⟨"BlinkMeshModel", "greatestDistance", "()I"⟩ ⟨"BlinkMeshModel", "greatestDistance", "()I"⟩ ∈ gtbl := gwp 47 (by decide +kernel) rfl
theorem kp48 : Cond.selects "BlinkMeshModel" ⟨"BlinkMeshModel", "pieces", "()I"⟩ ⟨"BlinkMeshModel", "pieces", "()I"⟩ ∈ gtbl := gwp 48 (by decide +kernel) rfl
theorem kp49 : Cond.selects "BlinkMeshModel" ⟨"BlinkMeshModel", "areRatesUnlike", "()Z"⟩ ⟨"BlinkMeshModel", "areRatesUnlike", "()Z"⟩ ∈ gtbl := gwp 49 (by decide +kernel) rfl
end
