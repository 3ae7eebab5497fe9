section
-- ===== PART A: goes FIRST, ahead of the names: the tables' words, and 'selects' of the private methods out of them =====
/-- a private method of a class that the tables say can be made, by its rows of tables_1 -/
def lw_okq (q : MethodName × Nat) : Prop := (q.1.cls ≠ "java/lang/invoke/MethodHandle" ∧ q.1.cls ≠ "java/lang/invoke/VarHandle") ∧ Cond.instantiable q.1.cls q.2 ∈ tables_1 ∧ Cond.privateMethod q.1 ∈ tables_1 ∧ Cond.instanceMethod q.1 ∈ tables_1
theorem lw_p0 : lw_okq (⟨"BlinkMesh", "spreadWith", "(II)I"⟩, 6) := ⟨⟨by decide +kernel, by decide +kernel⟩, List.mem_of_getElem? (i := 9) (by decide +kernel), List.mem_of_getElem? (i := 174) (by decide +kernel), List.mem_of_getElem? (i := 175) (by decide +kernel)⟩
theorem lw_p1 : lw_okq (⟨"BlinkMesh$Mesh", "grow", "()I"⟩, 15) := ⟨⟨by decide +kernel, by decide +kernel⟩, List.mem_of_getElem? (i := 17) (by decide +kernel), List.mem_of_getElem? (i := 197) (by decide +kernel), List.mem_of_getElem? (i := 198) (by decide +kernel)⟩
theorem lw_p2 : lw_okq (⟨"BlinkMesh$Mesh", "fullPhase", "()I"⟩, 15) := ⟨⟨by decide +kernel, by decide +kernel⟩, List.mem_of_getElem? (i := 17) (by decide +kernel), List.mem_of_getElem? (i := 201) (by decide +kernel), List.mem_of_getElem? (i := 202) (by decide +kernel)⟩
theorem lw_p3 : lw_okq (⟨"BlinkMesh$Mesh", "blink", "(I)V"⟩, 15) := ⟨⟨by decide +kernel, by decide +kernel⟩, List.mem_of_getElem? (i := 17) (by decide +kernel), List.mem_of_getElem? (i := 205) (by decide +kernel), List.mem_of_getElem? (i := 206) (by decide +kernel)⟩
theorem lw_p4 : lw_okq (⟨"BlinkMesh$Mesh", "pushFrom", "(II)I"⟩, 15) := ⟨⟨by decide +kernel, by decide +kernel⟩, List.mem_of_getElem? (i := 17) (by decide +kernel), List.mem_of_getElem? (i := 209) (by decide +kernel), List.mem_of_getElem? (i := 210) (by decide +kernel)⟩
theorem lw_p5 : lw_okq (⟨"BlinkMesh$Mesh", "pushAll", "(I)I"⟩, 15) := ⟨⟨by decide +kernel, by decide +kernel⟩, List.mem_of_getElem? (i := 17) (by decide +kernel), List.mem_of_getElem? (i := 213) (by decide +kernel), List.mem_of_getElem? (i := 214) (by decide +kernel)⟩
theorem lw_p6 : lw_okq (⟨"BlinkMesh$Mesh", "account", "(I)V"⟩, 15) := ⟨⟨by decide +kernel, by decide +kernel⟩, List.mem_of_getElem? (i := 17) (by decide +kernel), List.mem_of_getElem? (i := 220) (by decide +kernel), List.mem_of_getElem? (i := 221) (by decide +kernel)⟩
theorem lw_p7 : lw_okq (⟨"BlinkMesh$Mesh", "pieceOf", "(I)I"⟩, 15) := ⟨⟨by decide +kernel, by decide +kernel⟩, List.mem_of_getElem? (i := 17) (by decide +kernel), List.mem_of_getElem? (i := 261) (by decide +kernel), List.mem_of_getElem? (i := 262) (by decide +kernel)⟩
theorem lw_p8 : lw_okq (⟨"BlinkMesh$Mesh", "neighbours", "(I)I"⟩, 15) := ⟨⟨by decide +kernel, by decide +kernel⟩, List.mem_of_getElem? (i := 17) (by decide +kernel), List.mem_of_getElem? (i := 265) (by decide +kernel), List.mem_of_getElem? (i := 266) (by decide +kernel)⟩
theorem lw_p9 : lw_okq (⟨"BlinkMesh$Mesh", "agreeing", "(I)I"⟩, 15) := ⟨⟨by decide +kernel, by decide +kernel⟩, List.mem_of_getElem? (i := 17) (by decide +kernel), List.mem_of_getElem? (i := 269) (by decide +kernel), List.mem_of_getElem? (i := 270) (by decide +kernel)⟩
theorem lw_p10 : lw_okq (⟨"BlinkMesh", "trialTogetherIn", "()I"⟩, 6) := ⟨⟨by decide +kernel, by decide +kernel⟩, List.mem_of_getElem? (i := 9) (by decide +kernel), List.mem_of_getElem? (i := 325) (by decide +kernel), List.mem_of_getElem? (i := 326) (by decide +kernel)⟩
theorem lw_p11 : lw_okq (⟨"BlinkMesh$History", "dropOldest", "()V"⟩, 2) := ⟨⟨by decide +kernel, by decide +kernel⟩, List.mem_of_getElem? (i := 79) (by decide +kernel), List.mem_of_getElem? (i := 367) (by decide +kernel), List.mem_of_getElem? (i := 368) (by decide +kernel)⟩
def lw_privs_1 : List (MethodName × Nat) := [(⟨"BlinkMesh", "spreadWith", "(II)I"⟩, 6), (⟨"BlinkMesh$Mesh", "grow", "()I"⟩, 15), (⟨"BlinkMesh$Mesh", "fullPhase", "()I"⟩, 15), (⟨"BlinkMesh$Mesh", "blink", "(I)V"⟩, 15), (⟨"BlinkMesh$Mesh", "pushFrom", "(II)I"⟩, 15), (⟨"BlinkMesh$Mesh", "pushAll", "(I)I"⟩, 15), (⟨"BlinkMesh$Mesh", "account", "(I)V"⟩, 15), (⟨"BlinkMesh$Mesh", "pieceOf", "(I)I"⟩, 15), (⟨"BlinkMesh$Mesh", "neighbours", "(I)I"⟩, 15), (⟨"BlinkMesh$Mesh", "agreeing", "(I)I"⟩, 15), (⟨"BlinkMesh", "trialTogetherIn", "()I"⟩, 6), (⟨"BlinkMesh$History", "dropOldest", "()V"⟩, 2)]
theorem lw_r1 : ∀ q ∈ lw_privs_1, lw_okq q := List.forall_mem_cons.mpr ⟨lw_p0, List.forall_mem_cons.mpr ⟨lw_p1, List.forall_mem_cons.mpr ⟨lw_p2, List.forall_mem_cons.mpr ⟨lw_p3, List.forall_mem_cons.mpr ⟨lw_p4, List.forall_mem_cons.mpr ⟨lw_p5, List.forall_mem_cons.mpr ⟨lw_p6, List.forall_mem_cons.mpr ⟨lw_p7, List.forall_mem_cons.mpr ⟨lw_p8, List.forall_mem_cons.mpr ⟨lw_p9, List.forall_mem_cons.mpr ⟨lw_p10, List.forall_mem_cons.mpr ⟨lw_p11, fun _ h => absurd h List.not_mem_nil⟩⟩⟩⟩⟩⟩⟩⟩⟩⟩⟩⟩
def lw_privs : List (MethodName × Nat) := lw_privs_1
def lw_tbl : List Cond := k2_sels lw_privs ++ tables_1
theorem lw_privs_ok : ∀ q ∈ lw_privs, lw_okq q := lw_r1
-- ===== end of PART A; then your names; then what follows =====
theorem goodIn_r {big : List Cond} (ws : List Cond) (ps : List Nat) (hp : ws = ps.filterMap (fun i => big[i]?)) (h : ws.all goodWord = true) : GoodIn big ws := by
  intro w hw
  have h1 := List.all_eq_true.mp h w hw
  rw [hp] at hw
  obtain ⟨i, -, hi⟩ := List.mem_filterMap.mp hw
  have hm : w ∈ big := by first | exact List.mem_of_getElem? hi | exact List.getElem?_mem hi
  exact ⟨hm, good_of_word h1⟩
theorem goodIn_app {big a b : List Cond} (ha : GoodIn big a) (hb : GoodIn big b) : GoodIn big (a ++ b) := fun w h => (List.mem_append.mp h).elim (ha w) (hb w)
theorem goodIn_ca {big a b : List Cond} {c : Cond} (ha : GoodIn big (c :: a)) (hb : GoodIn big b) : GoodIn big (c :: (a ++ b)) := fun w h => (List.mem_cons.mp h).elim (fun e => ha w (List.mem_cons.mpr (Or.inl e))) (fun h => (List.mem_append.mp h).elim (fun h => ha w (List.mem_cons.mpr (Or.inr h))) (hb w))
theorem goodIn_sub {big ws : List Cond} (hm : ∀ w ∈ ws, w ∈ big) (h : ws.all goodWord = true) : GoodIn big ws := fun w hw => ⟨hm w hw, good_of_word (List.all_eq_true.mp h w hw)⟩
def RX0 : String := "BlinkMesh$History"
def TX0 : u_T := fun k => match k with
  | 0 => ("BlinkMesh$History", "states", "[LBlinkMesh$Mesh;", true)
  | _ => ("BlinkMesh$History", "kept", "I", false)
def tyX0 : Nat → FieldType := fun k => match k with
  | 0 => .array (.object "BlinkMesh$Mesh")
  | _ => .int
theorem nmX0 : ∀ a, a < 2 → ∀ b, b < 2 → a ≠ b → (TX0 a).2.1 ≠ (TX0 b).2.1 := by decide +kernel
theorem tyX0_ok : ∀ k, k < 2 → parseFieldDescriptor (TX0 k).2.2.1 = some (tyX0 k) := by decide +kernel
abbrev cX0_init : ByteArray := prog_2_method_1_code
def yX0_init : MethodName := ⟨RX0, "<init>", "()V"⟩
abbrev cX0_size : ByteArray := prog_2_method_2_code
def yX0_size : MethodName := ⟨RX0, "size", "()I"⟩
abbrev cX0_remember : ByteArray := prog_2_method_3_code
def yX0_remember : MethodName := ⟨RX0, "remember", "(LBlinkMesh$Mesh;)V"⟩
abbrev cX0_dropOldest : ByteArray := prog_2_method_4_code
def yX0_dropOldest : MethodName := ⟨RX0, "dropOldest", "()V"⟩
abbrev cX0_takeBack : ByteArray := prog_2_method_5_code
def yX0_takeBack : MethodName := ⟨RX0, "takeBack", "(LBlinkMesh$Mesh;)V"⟩
def RX1 : String := "BlinkMesh$Mesh"
def TX1 : u_T := fun k => match k with
  | 0 => ("BlinkMesh$Mesh", "phase", "[I", true)
  | 1 => ("BlinkMesh$Mesh", "rate", "[I", true)
  | 2 => ("BlinkMesh$Mesh", "deaf", "[I", true)
  | 3 => ("BlinkMesh$Mesh", "linked", "[I", true)
  | 4 => ("BlinkMesh$Mesh", "blinks", "[I", true)
  | 5 => ("BlinkMesh$Mesh", "latest", "[I", true)
  | 6 => ("BlinkMesh$Mesh", "pushes", "[I", true)
  | 7 => ("BlinkMesh$Mesh", "settings", "[I", true)
  | 8 => ("BlinkMesh$Mesh", "there", "I", false)
  | 9 => ("BlinkMesh$Mesh", "on", "I", false)
  | 10 => ("BlinkMesh$Mesh", "tick", "I", false)
  | 11 => ("BlinkMesh$Mesh", "blinkCount", "I", false)
  | 12 => ("BlinkMesh$Mesh", "pushCount", "I", false)
  | 13 => ("BlinkMesh$Mesh", "sharedTicks", "I", false)
  | _ => ("BlinkMesh$Mesh", "mostTogether", "I", false)
def tyX1 : Nat → FieldType := fun k => match k with
  | 0 => .array .int
  | 1 => .array .int
  | 2 => .array .int
  | 3 => .array .int
  | 4 => .array .int
  | 5 => .array .int
  | 6 => .array .int
  | 7 => .array .int
  | 8 => .int
  | 9 => .int
  | 10 => .int
  | 11 => .int
  | 12 => .int
  | 13 => .int
  | _ => .int
theorem nmX1 : ∀ a, a < 15 → ∀ b, b < 15 → a ≠ b → (TX1 a).2.1 ≠ (TX1 b).2.1 := by decide +kernel
theorem tyX1_ok : ∀ k, k < 15 → parseFieldDescriptor (TX1 k).2.2.1 = some (tyX1 k) := by decide +kernel
abbrev cX1_init : ByteArray := prog_3_method_1_code
def yX1_init : MethodName := ⟨RX1, "<init>", "()V"⟩
abbrev cX1_copyFrom : ByteArray := prog_3_method_2_code
def yX1_copyFrom : MethodName := ⟨RX1, "copyFrom", "(LBlinkMesh$Mesh;)V"⟩
abbrev cX1_has : ByteArray := prog_3_method_3_code
def yX1_has : MethodName := ⟨RX1, "has", "(I)Z"⟩
abbrev cX1_isOn : ByteArray := prog_3_method_4_code
def yX1_isOn : MethodName := ⟨RX1, "isOn", "(I)Z"⟩
abbrev cX1_isLinked : ByteArray := prog_3_method_5_code
def yX1_isLinked : MethodName := ⟨RX1, "isLinked", "(II)Z"⟩
abbrev cX1_couldLink : ByteArray := prog_3_method_6_code
def yX1_couldLink : MethodName := ⟨RX1, "couldLink", "(II)Z"⟩
abbrev cX1_isWholePhase : ByteArray := prog_3_method_7_code
def yX1_isWholePhase : MethodName := ⟨RX1, "isWholePhase", "(I)Z"⟩
abbrev cX1_setting : ByteArray := prog_3_method_8_code
def yX1_setting : MethodName := ⟨RX1, "setting", "(I)I"⟩
abbrev cX1_tickNumber : ByteArray := prog_3_method_9_code
def yX1_tickNumber : MethodName := ⟨RX1, "tickNumber", "()I"⟩
abbrev cX1_allBlinks : ByteArray := prog_3_method_10_code
def yX1_allBlinks : MethodName := ⟨RX1, "allBlinks", "()I"⟩
abbrev cX1_lamps : ByteArray := prog_3_method_11_code
def yX1_lamps : MethodName := ⟨RX1, "lamps", "()I"⟩
abbrev cX1_lampsOn : ByteArray := prog_3_method_12_code
def yX1_lampsOn : MethodName := ⟨RX1, "lampsOn", "()I"⟩
abbrev cX1_links : ByteArray := prog_3_method_13_code
def yX1_links : MethodName := ⟨RX1, "links", "()I"⟩
abbrev cX1_freeNumber : ByteArray := prog_3_method_14_code
def yX1_freeNumber : MethodName := ⟨RX1, "freeNumber", "()I"⟩
abbrev cX1_place : ByteArray := prog_3_method_15_code
def yX1_place : MethodName := ⟨RX1, "place", "(III)V"⟩
abbrev cX1_remove : ByteArray := prog_3_method_16_code
def yX1_remove : MethodName := ⟨RX1, "remove", "(I)I"⟩
abbrev cX1_switchTo : ByteArray := prog_3_method_18_code
def yX1_switchTo : MethodName := ⟨RX1, "switchTo", "(IZ)V"⟩
abbrev cX1_changeLink : ByteArray := prog_3_method_19_code
def yX1_changeLink : MethodName := ⟨RX1, "changeLink", "(IIZ)V"⟩
abbrev cX1_retune : ByteArray := prog_3_method_20_code
def yX1_retune : MethodName := ⟨RX1, "retune", "(III)I"⟩
abbrev cX1_changeSetting : ByteArray := prog_3_method_21_code
def yX1_changeSetting : MethodName := ⟨RX1, "changeSetting", "(II)I"⟩
abbrev cX1_fitPhases : ByteArray := prog_3_method_22_code
def yX1_fitPhases : MethodName := ⟨RX1, "fitPhases", "()V"⟩
abbrev cX1_fullPhase : ByteArray := prog_3_method_23_code
def yX1_fullPhase : MethodName := ⟨RX1, "fullPhase", "()I"⟩
abbrev cX1_tickOften : ByteArray := prog_3_method_24_code
def yX1_tickOften : MethodName := ⟨RX1, "tickOften", "(I)V"⟩
abbrev cX1_tickOnce : ByteArray := prog_3_method_25_code
def yX1_tickOnce : MethodName := ⟨RX1, "tickOnce", "()I"⟩
abbrev cX1_grow : ByteArray := prog_3_method_26_code
def yX1_grow : MethodName := ⟨RX1, "grow", "()I"⟩
abbrev cX1_blink : ByteArray := prog_3_method_27_code
def yX1_blink : MethodName := ⟨RX1, "blink", "(I)V"⟩
abbrev cX1_pushFrom : ByteArray := prog_3_method_28_code
def yX1_pushFrom : MethodName := ⟨RX1, "pushFrom", "(II)I"⟩
abbrev cX1_pushAll : ByteArray := prog_3_method_29_code
def yX1_pushAll : MethodName := ⟨RX1, "pushAll", "(I)I"⟩
abbrev cX1_account : ByteArray := prog_3_method_30_code
def yX1_account : MethodName := ⟨RX1, "account", "(I)V"⟩
abbrev cX1_distance : ByteArray := prog_3_method_31_code
def yX1_distance : MethodName := ⟨RX1, "distance", "(II)I"⟩
abbrev cX1_greatestDistance : ByteArray := prog_3_method_32_code
def yX1_greatestDistance : MethodName := ⟨RX1, "greatestDistance", "()I"⟩
abbrev cX1_isTogether : ByteArray := prog_3_method_33_code
def yX1_isTogether : MethodName := ⟨RX1, "isTogether", "()Z"⟩
abbrev cX1_hasUnlikeRates : ByteArray := prog_3_method_34_code
def yX1_hasUnlikeRates : MethodName := ⟨RX1, "hasUnlikeRates", "()Z"⟩
abbrev cX1_pieceOf : ByteArray := prog_3_method_35_code
def yX1_pieceOf : MethodName := ⟨RX1, "pieceOf", "(I)I"⟩
abbrev cX1_neighbours : ByteArray := prog_3_method_36_code
def yX1_neighbours : MethodName := ⟨RX1, "neighbours", "(I)I"⟩
abbrev cX1_pieces : ByteArray := prog_3_method_37_code
def yX1_pieces : MethodName := ⟨RX1, "pieces", "()I"⟩
abbrev cX1_agreeing : ByteArray := prog_3_method_38_code
def yX1_agreeing : MethodName := ⟨RX1, "agreeing", "(I)I"⟩
abbrev cX1_lampWithMostLinks : ByteArray := prog_3_method_39_code
def yX1_lampWithMostLinks : MethodName := ⟨RX1, "lampWithMostLinks", "()I"⟩
abbrev cX1_tellLamp : ByteArray := prog_3_method_40_code
def yX1_tellLamp : MethodName := ⟨RX1, "tellLamp", "(II)I"⟩
abbrev cX1_tellMesh : ByteArray := prog_3_method_41_code
def yX1_tellMesh : MethodName := ⟨RX1, "tellMesh", "(I)I"⟩
def RX2 : String := "BlinkMesh$MeshText"
def TX2 : u_T := fun k => match k with
  | 0 => ("BlinkMesh$MeshText", "characters", "[C", true)
  | 1 => ("BlinkMesh$MeshText", "length", "I", false)
  | 2 => ("BlinkMesh$MeshText", "place", "I", false)
  | 3 => ("BlinkMesh$MeshText", "phase", "[I", true)
  | 4 => ("BlinkMesh$MeshText", "rate", "[I", true)
  | 5 => ("BlinkMesh$MeshText", "lampCount", "I", false)
  | _ => ("BlinkMesh$MeshText", "linked", "[I", true)
def tyX2 : Nat → FieldType := fun k => match k with
  | 0 => .array .char
  | 1 => .int
  | 2 => .int
  | 3 => .array .int
  | 4 => .array .int
  | 5 => .int
  | _ => .array .int
theorem nmX2 : ∀ a, a < 7 → ∀ b, b < 7 → a ≠ b → (TX2 a).2.1 ≠ (TX2 b).2.1 := by decide +kernel
theorem tyX2_ok : ∀ k, k < 7 → parseFieldDescriptor (TX2 k).2.2.1 = some (tyX2 k) := by decide +kernel
abbrev cX2_init : ByteArray := prog_4_method_1_code
def yX2_init : MethodName := ⟨RX2, "<init>", "()V"⟩
abbrev cX2_length : ByteArray := prog_4_method_2_code
def yX2_length : MethodName := ⟨RX2, "length", "()I"⟩
def RX3 : String := "BlinkMesh"
def TX3 : u_T := fun k => match k with
  | 0 => ("BlinkMesh", "mesh", "LBlinkMesh$Mesh;", true)
  | 1 => ("BlinkMesh", "trial", "LBlinkMesh$Mesh;", true)
  | 2 => ("BlinkMesh", "snapshot", "LBlinkMesh$Mesh;", true)
  | 3 => ("BlinkMesh", "hasSnapshot", "Z", false)
  | 4 => ("BlinkMesh", "history", "LBlinkMesh$History;", true)
  | _ => ("BlinkMesh", "text", "LBlinkMesh$MeshText;", true)
def tyX3 : Nat → FieldType := fun k => match k with
  | 0 => .object "BlinkMesh$Mesh"
  | 1 => .object "BlinkMesh$Mesh"
  | 2 => .object "BlinkMesh$Mesh"
  | 3 => .boolean
  | 4 => .object "BlinkMesh$History"
  | _ => .object "BlinkMesh$MeshText"
theorem nmX3 : ∀ a, a < 6 → ∀ b, b < 6 → a ≠ b → (TX3 a).2.1 ≠ (TX3 b).2.1 := by decide +kernel
theorem tyX3_ok : ∀ k, k < 6 → parseFieldDescriptor (TX3 k).2.2.1 = some (tyX3 k) := by decide +kernel
abbrev cX3_init : ByteArray := prog_1_method_1_code
def yX3_init : MethodName := ⟨RX3, "<init>", "()V"⟩
abbrev cX3_come : ByteArray := prog_1_method_2_code
def yX3_come : MethodName := ⟨RX3, "come", "(II)I"⟩
abbrev cX3_goAway : ByteArray := prog_1_method_3_code
def yX3_goAway : MethodName := ⟨RX3, "goAway", "(I)I"⟩
abbrev cX3_turn : ByteArray := prog_1_method_4_code
def yX3_turn : MethodName := ⟨RX3, "turn", "(IZ)I"⟩
abbrev cX3_link : ByteArray := prog_1_method_5_code
def yX3_link : MethodName := ⟨RX3, "link", "(IIZ)I"⟩
abbrev cX3_tune : ByteArray := prog_1_method_6_code
def yX3_tune : MethodName := ⟨RX3, "tune", "(III)I"⟩
abbrev cX3_set : ByteArray := prog_1_method_7_code
def yX3_set : MethodName := ⟨RX3, "set", "(II)I"⟩
abbrev cX3_pass : ByteArray := prog_1_method_8_code
def yX3_pass : MethodName := ⟨RX3, "pass", "(I)I"⟩
abbrev cX3_undo : ByteArray := prog_1_method_12_code
def yX3_undo : MethodName := ⟨RX3, "undo", "()I"⟩
abbrev cX3_lamp : ByteArray := prog_1_method_15_code
def yX3_lamp : MethodName := ⟨RX3, "lamp", "(II)I"⟩
abbrev cX3_apart : ByteArray := prog_1_method_16_code
def yX3_apart : MethodName := ⟨RX3, "apart", "(II)I"⟩
abbrev cX3_next : ByteArray := prog_1_method_17_code
def yX3_next : MethodName := ⟨RX3, "next", "(I)I"⟩
abbrev cX3_togetherIn : ByteArray := prog_1_method_18_code
def yX3_togetherIn : MethodName := ⟨RX3, "togetherIn", "()I"⟩
abbrev cX3_reason : ByteArray := prog_1_method_19_code
def yX3_reason : MethodName := ⟨RX3, "reason", "()I"⟩
abbrev cX3_spread : ByteArray := prog_1_method_20_code
def yX3_spread : MethodName := ⟨RX3, "spread", "()I"⟩
abbrev cX3_ifLinked : ByteArray := prog_1_method_21_code
def yX3_ifLinked : MethodName := ⟨RX3, "ifLinked", "(II)I"⟩
abbrev cX3_hub : ByteArray := prog_1_method_22_code
def yX3_hub : MethodName := ⟨RX3, "hub", "()I"⟩
abbrev cX3_bestLink : ByteArray := prog_1_method_23_code
def yX3_bestLink : MethodName := ⟨RX3, "bestLink", "(I)I"⟩
abbrev cX3_count : ByteArray := prog_1_method_24_code
def yX3_count : MethodName := ⟨RX3, "count", "(I)I"⟩
abbrev cX3_isRate : ByteArray := prog_1_method_25_code
def yX3_isRate : MethodName := ⟨RX3, "isRate", "(I)Z"⟩
abbrev cX3_holds : ByteArray := prog_1_method_26_code
def yX3_holds : MethodName := ⟨RX3, "holds", "(II)Z"⟩
abbrev cX3_trialTogetherIn : ByteArray := prog_1_method_27_code
def yX3_trialTogetherIn : MethodName := ⟨RX3, "trialTogetherIn", "()I"⟩
abbrev cX3_spreadWith : ByteArray := prog_1_method_28_code
def yX3_spreadWith : MethodName := ⟨RX3, "spreadWith", "(II)I"⟩
def RX4 : String := "BlinkMeshModel"
def TX4 : u_T := fun k => match k with
  | _ => ("", "", "", false)
def tyX4 : Nat → FieldType := fun k => match k with
  | _ => .int
theorem nmX4 : ∀ a, a < 0 → ∀ b, b < 0 → a ≠ b → (TX4 a).2.1 ≠ (TX4 b).2.1 := by decide +kernel
theorem tyX4_ok : ∀ k, k < 0 → parseFieldDescriptor (TX4 k).2.2.1 = some (tyX4 k) := by decide +kernel
def RJx8e188 : String := "java/lang/Cloneable"
def RJ6 : String := "java/lang/Integer"
abbrev cJ6_bitCount_0f7a4 : ByteArray := prog_8_method_49_code
def yJ6_bitCount_0f7a4 : MethodName := ⟨RJ6, "bitCount", "(I)I"⟩
def RJ9 : String := "java/lang/Math"
abbrev cJ9_abs_0f7a4 : ByteArray := prog_9_method_59_code
def yJ9_abs_0f7a4 : MethodName := ⟨RJ9, "abs", "(I)I"⟩
abbrev cJ9_max_7cf53 : ByteArray := prog_9_method_65_code
def yJ9_max_7cf53 : MethodName := ⟨RJ9, "max", "(II)I"⟩
abbrev cJ9_min_7cf53 : ByteArray := prog_9_method_69_code
def yJ9_min_7cf53 : MethodName := ⟨RJ9, "min", "(II)I"⟩
def RJ10 : String := "java/lang/System"
def RL : String := "BlinkMeshLaw"
abbrev cL_cell : ByteArray := method_2_code
def yL_cell : MethodName := ⟨RL, "cell", "([II)I"⟩
abbrev cL_low : ByteArray := method_3_code
def yL_low : MethodName := ⟨RL, "low", "(II)I"⟩
abbrev cL_isOn : ByteArray := method_4_code
def yL_isOn : MethodName := ⟨RL, "isOn", "(LBlinkMesh;I)Z"⟩
abbrev cL_isThere : ByteArray := method_5_code
def yL_isThere : MethodName := ⟨RL, "isThere", "(LBlinkMesh;I)Z"⟩
abbrev cL_isLamp : ByteArray := method_6_code
def yL_isLamp : MethodName := ⟨RL, "isLamp", "(LBlinkMesh;I)Z"⟩
abbrev cL_holds : ByteArray := method_7_code
def yL_holds : MethodName := ⟨RL, "holds", "(LBlinkMesh;)Z"⟩
abbrev cL_tale : ByteArray := method_8_code
def yL_tale : MethodName := ⟨RL, "tale", "(LBlinkMesh;)J"⟩
abbrev cL_nextSo : ByteArray := method_9_code
def yL_nextSo : MethodName := ⟨RL, "nextSo", "(LBlinkMesh;)Z"⟩
abbrev cL_togetherSo : ByteArray := method_10_code
def yL_togetherSo : MethodName := ⟨RL, "togetherSo", "(LBlinkMesh;)Z"⟩
abbrev cL_linkedSo : ByteArray := method_11_code
def yL_linkedSo : MethodName := ⟨RL, "linkedSo", "(LBlinkMesh;II)Z"⟩
abbrev cL_bestSo : ByteArray := method_12_code
def yL_bestSo : MethodName := ⟨RL, "bestSo", "(LBlinkMesh;)Z"⟩
abbrev cL_passSo : ByteArray := method_13_code
def yL_passSo : MethodName := ⟨RL, "passSo", "(LBlinkMesh;II)Z"⟩
abbrev cL_twins : ByteArray := method_14_code
def yL_twins : MethodName := ⟨RL, "twins", "(LBlinkMesh;I)Z"⟩
abbrev cL_act : ByteArray := method_15_code
def yL_act : MethodName := ⟨RL, "act", "(LBlinkMesh;II)Z"⟩
abbrev cL_law : ByteArray := code
def yL_law : MethodName := ⟨RL, "law", "([I)Z"⟩
abbrev vwCl : List vw_C := [(RX0, TX0, 2), (RX1, TX1, 15), (RX2, TX2, 7), (RX3, TX3, 6)]
end
section
theorem dX0_init_0 : decode cX0_init 0 = .ok (.aload_n 0, 1) := by decide +kernel
theorem dX0_init_1 : decode cX0_init 1 = .ok (.invokespecial 3, 3) := by decide +kernel
theorem dX0_init_4 : decode cX0_init 4 = .ok (.aload_n 0, 1) := by decide +kernel
theorem dX0_init_5 : decode cX0_init 5 = .ok (.iconst 4, 1) := by decide +kernel
theorem dX0_init_6 : decode cX0_init 6 = .ok (.anewarray 9, 3) := by decide +kernel
theorem dX0_init_9 : decode cX0_init 9 = .ok (.putfield 11, 3) := by decide +kernel
theorem dX0_init_12 : decode cX0_init 12 = .ok (.iconst 0, 1) := by decide +kernel
theorem dX0_init_13 : decode cX0_init 13 = .ok (.istore_n 1, 1) := by decide +kernel
theorem dX0_init_14 : decode cX0_init 14 = .ok (.iload_n 1, 1) := by decide +kernel
theorem dX0_init_15 : decode cX0_init 15 = .ok (.iconst 4, 1) := by decide +kernel
theorem dX0_init_16 : decode cX0_init 16 = .ok (.if_icmp .ge 22, 3) := by decide +kernel
theorem dX0_init_19 : decode cX0_init 19 = .ok (.aload_n 0, 1) := by decide +kernel
theorem dX0_init_20 : decode cX0_init 20 = .ok (.getfield 11, 3) := by decide +kernel
theorem dX0_init_23 : decode cX0_init 23 = .ok (.iload_n 1, 1) := by decide +kernel
theorem dX0_init_24 : decode cX0_init 24 = .ok (.new 9, 3) := by decide +kernel
theorem dX0_init_27 : decode cX0_init 27 = .ok (.dup, 1) := by decide +kernel
theorem dX0_init_28 : decode cX0_init 28 = .ok (.invokespecial 17, 3) := by decide +kernel
theorem dX0_init_31 : decode cX0_init 31 = .ok (.aastore, 1) := by decide +kernel
theorem dX0_init_32 : decode cX0_init 32 = .ok (.iinc 1 1, 3) := by decide +kernel
theorem dX0_init_35 : decode cX0_init 35 = .ok (.goto (-21), 3) := by decide +kernel
theorem dX0_init_38 : decode cX0_init 38 = .ok (.return_, 1) := by decide +kernel
theorem dX0_size_0 : decode cX0_size 0 = .ok (.aload_n 0, 1) := by decide +kernel
theorem dX0_size_1 : decode cX0_size 1 = .ok (.getfield 18, 3) := by decide +kernel
theorem dX0_size_4 : decode cX0_size 4 = .ok (.ireturn, 1) := by decide +kernel
theorem dX0_remember_0 : decode cX0_remember 0 = .ok (.aload_n 0, 1) := by decide +kernel
theorem dX0_remember_1 : decode cX0_remember 1 = .ok (.getfield 18, 3) := by decide +kernel
theorem dX0_remember_4 : decode cX0_remember 4 = .ok (.iconst 4, 1) := by decide +kernel
theorem dX0_remember_5 : decode cX0_remember 5 = .ok (.if_icmp .lt 7, 3) := by decide +kernel
theorem dX0_remember_8 : decode cX0_remember 8 = .ok (.aload_n 0, 1) := by decide +kernel
theorem dX0_remember_9 : decode cX0_remember 9 = .ok (.invokevirtual 22, 3) := by decide +kernel
theorem dX0_remember_12 : decode cX0_remember 12 = .ok (.aload_n 0, 1) := by decide +kernel
theorem dX0_remember_13 : decode cX0_remember 13 = .ok (.getfield 11, 3) := by decide +kernel
theorem dX0_remember_16 : decode cX0_remember 16 = .ok (.aload_n 0, 1) := by decide +kernel
theorem dX0_remember_17 : decode cX0_remember 17 = .ok (.getfield 18, 3) := by decide +kernel
theorem dX0_remember_20 : decode cX0_remember 20 = .ok (.aaload, 1) := by decide +kernel
theorem dX0_remember_21 : decode cX0_remember 21 = .ok (.aload_n 1, 1) := by decide +kernel
theorem dX0_remember_22 : decode cX0_remember 22 = .ok (.invokevirtual 25, 3) := by decide +kernel
theorem dX0_remember_25 : decode cX0_remember 25 = .ok (.aload_n 0, 1) := by decide +kernel
theorem dX0_remember_26 : decode cX0_remember 26 = .ok (.dup, 1) := by decide +kernel
theorem dX0_remember_27 : decode cX0_remember 27 = .ok (.getfield 18, 3) := by decide +kernel
theorem dX0_remember_30 : decode cX0_remember 30 = .ok (.iconst 1, 1) := by decide +kernel
theorem dX0_remember_31 : decode cX0_remember 31 = .ok (.iadd, 1) := by decide +kernel
theorem dX0_remember_32 : decode cX0_remember 32 = .ok (.putfield 18, 3) := by decide +kernel
theorem dX0_remember_35 : decode cX0_remember 35 = .ok (.return_, 1) := by decide +kernel
theorem dX0_dropOldest_0 : decode cX0_dropOldest 0 = .ok (.aload_n 0, 1) := by decide +kernel
theorem dX0_dropOldest_1 : decode cX0_dropOldest 1 = .ok (.getfield 11, 3) := by decide +kernel
theorem dX0_dropOldest_4 : decode cX0_dropOldest 4 = .ok (.iconst 0, 1) := by decide +kernel
theorem dX0_dropOldest_5 : decode cX0_dropOldest 5 = .ok (.aaload, 1) := by decide +kernel
theorem dX0_dropOldest_6 : decode cX0_dropOldest 6 = .ok (.astore_n 1, 1) := by decide +kernel
theorem dX0_dropOldest_7 : decode cX0_dropOldest 7 = .ok (.iconst 1, 1) := by decide +kernel
theorem dX0_dropOldest_8 : decode cX0_dropOldest 8 = .ok (.istore_n 2, 1) := by decide +kernel
theorem dX0_dropOldest_9 : decode cX0_dropOldest 9 = .ok (.iload_n 2, 1) := by decide +kernel
theorem dX0_dropOldest_10 : decode cX0_dropOldest 10 = .ok (.iconst 4, 1) := by decide +kernel
theorem dX0_dropOldest_11 : decode cX0_dropOldest 11 = .ok (.if_icmp .ge 23, 3) := by decide +kernel
theorem dX0_dropOldest_14 : decode cX0_dropOldest 14 = .ok (.aload_n 0, 1) := by decide +kernel
theorem dX0_dropOldest_15 : decode cX0_dropOldest 15 = .ok (.getfield 11, 3) := by decide +kernel
theorem dX0_dropOldest_18 : decode cX0_dropOldest 18 = .ok (.iload_n 2, 1) := by decide +kernel
theorem dX0_dropOldest_19 : decode cX0_dropOldest 19 = .ok (.iconst 1, 1) := by decide +kernel
theorem dX0_dropOldest_20 : decode cX0_dropOldest 20 = .ok (.isub, 1) := by decide +kernel
theorem dX0_dropOldest_21 : decode cX0_dropOldest 21 = .ok (.aload_n 0, 1) := by decide +kernel
theorem dX0_dropOldest_22 : decode cX0_dropOldest 22 = .ok (.getfield 11, 3) := by decide +kernel
theorem dX0_dropOldest_25 : decode cX0_dropOldest 25 = .ok (.iload_n 2, 1) := by decide +kernel
theorem dX0_dropOldest_26 : decode cX0_dropOldest 26 = .ok (.aaload, 1) := by decide +kernel
theorem dX0_dropOldest_27 : decode cX0_dropOldest 27 = .ok (.aastore, 1) := by decide +kernel
theorem dX0_dropOldest_28 : decode cX0_dropOldest 28 = .ok (.iinc 2 1, 3) := by decide +kernel
theorem dX0_dropOldest_31 : decode cX0_dropOldest 31 = .ok (.goto (-22), 3) := by decide +kernel
theorem dX0_dropOldest_34 : decode cX0_dropOldest 34 = .ok (.aload_n 0, 1) := by decide +kernel
theorem dX0_dropOldest_35 : decode cX0_dropOldest 35 = .ok (.getfield 11, 3) := by decide +kernel
theorem dX0_dropOldest_38 : decode cX0_dropOldest 38 = .ok (.iconst 3, 1) := by decide +kernel
theorem dX0_dropOldest_39 : decode cX0_dropOldest 39 = .ok (.aload_n 1, 1) := by decide +kernel
theorem dX0_dropOldest_40 : decode cX0_dropOldest 40 = .ok (.aastore, 1) := by decide +kernel
theorem dX0_dropOldest_41 : decode cX0_dropOldest 41 = .ok (.aload_n 0, 1) := by decide +kernel
theorem dX0_dropOldest_42 : decode cX0_dropOldest 42 = .ok (.iconst 3, 1) := by decide +kernel
theorem dX0_dropOldest_43 : decode cX0_dropOldest 43 = .ok (.putfield 18, 3) := by decide +kernel
theorem dX0_dropOldest_46 : decode cX0_dropOldest 46 = .ok (.return_, 1) := by decide +kernel
theorem dX0_takeBack_0 : decode cX0_takeBack 0 = .ok (.aload_n 0, 1) := by decide +kernel
theorem dX0_takeBack_1 : decode cX0_takeBack 1 = .ok (.getfield 18, 3) := by decide +kernel
theorem dX0_takeBack_4 : decode cX0_takeBack 4 = .ok (.ifCond .le 26, 3) := by decide +kernel
theorem dX0_takeBack_7 : decode cX0_takeBack 7 = .ok (.aload_n 0, 1) := by decide +kernel
theorem dX0_takeBack_8 : decode cX0_takeBack 8 = .ok (.dup, 1) := by decide +kernel
theorem dX0_takeBack_9 : decode cX0_takeBack 9 = .ok (.getfield 18, 3) := by decide +kernel
theorem dX0_takeBack_12 : decode cX0_takeBack 12 = .ok (.iconst 1, 1) := by decide +kernel
theorem dX0_takeBack_13 : decode cX0_takeBack 13 = .ok (.isub, 1) := by decide +kernel
theorem dX0_takeBack_14 : decode cX0_takeBack 14 = .ok (.putfield 18, 3) := by decide +kernel
theorem dX0_takeBack_17 : decode cX0_takeBack 17 = .ok (.aload_n 1, 1) := by decide +kernel
theorem dX0_takeBack_18 : decode cX0_takeBack 18 = .ok (.aload_n 0, 1) := by decide +kernel
theorem dX0_takeBack_19 : decode cX0_takeBack 19 = .ok (.getfield 11, 3) := by decide +kernel
theorem dX0_takeBack_22 : decode cX0_takeBack 22 = .ok (.aload_n 0, 1) := by decide +kernel
theorem dX0_takeBack_23 : decode cX0_takeBack 23 = .ok (.getfield 18, 3) := by decide +kernel
theorem dX0_takeBack_26 : decode cX0_takeBack 26 = .ok (.aaload, 1) := by decide +kernel
theorem dX0_takeBack_27 : decode cX0_takeBack 27 = .ok (.invokevirtual 25, 3) := by decide +kernel
theorem dX0_takeBack_30 : decode cX0_takeBack 30 = .ok (.return_, 1) := by decide +kernel
theorem dX1_init_0 : decode cX1_init 0 = .ok (.aload_n 0, 1) := by decide +kernel
theorem dX1_init_1 : decode cX1_init 1 = .ok (.invokespecial 3, 3) := by decide +kernel
theorem dX1_init_4 : decode cX1_init 4 = .ok (.aload_n 0, 1) := by decide +kernel
theorem dX1_init_5 : decode cX1_init 5 = .ok (.bipush 16, 2) := by decide +kernel
theorem dX1_init_7 : decode cX1_init 7 = .ok (.newarray .int, 2) := by decide +kernel
theorem dX1_init_9 : decode cX1_init 9 = .ok (.putfield 9, 3) := by decide +kernel
theorem dX1_init_12 : decode cX1_init 12 = .ok (.aload_n 0, 1) := by decide +kernel
theorem dX1_init_13 : decode cX1_init 13 = .ok (.bipush 16, 2) := by decide +kernel
theorem dX1_init_15 : decode cX1_init 15 = .ok (.newarray .int, 2) := by decide +kernel
theorem dX1_init_17 : decode cX1_init 17 = .ok (.putfield 15, 3) := by decide +kernel
theorem dX1_init_20 : decode cX1_init 20 = .ok (.aload_n 0, 1) := by decide +kernel
theorem dX1_init_21 : decode cX1_init 21 = .ok (.bipush 16, 2) := by decide +kernel
theorem dX1_init_23 : decode cX1_init 23 = .ok (.newarray .int, 2) := by decide +kernel
theorem dX1_init_25 : decode cX1_init 25 = .ok (.putfield 18, 3) := by decide +kernel
theorem dX1_init_28 : decode cX1_init 28 = .ok (.aload_n 0, 1) := by decide +kernel
theorem dX1_init_29 : decode cX1_init 29 = .ok (.bipush 16, 2) := by decide +kernel
theorem dX1_init_31 : decode cX1_init 31 = .ok (.newarray .int, 2) := by decide +kernel
theorem dX1_init_33 : decode cX1_init 33 = .ok (.putfield 21, 3) := by decide +kernel
theorem dX1_init_36 : decode cX1_init 36 = .ok (.aload_n 0, 1) := by decide +kernel
theorem dX1_init_37 : decode cX1_init 37 = .ok (.bipush 16, 2) := by decide +kernel
theorem dX1_init_39 : decode cX1_init 39 = .ok (.newarray .int, 2) := by decide +kernel
theorem dX1_init_41 : decode cX1_init 41 = .ok (.putfield 24, 3) := by decide +kernel
theorem dX1_init_44 : decode cX1_init 44 = .ok (.aload_n 0, 1) := by decide +kernel
theorem dX1_init_45 : decode cX1_init 45 = .ok (.bipush 16, 2) := by decide +kernel
theorem dX1_init_47 : decode cX1_init 47 = .ok (.newarray .int, 2) := by decide +kernel
theorem dX1_init_49 : decode cX1_init 49 = .ok (.putfield 27, 3) := by decide +kernel
theorem dX1_init_52 : decode cX1_init 52 = .ok (.aload_n 0, 1) := by decide +kernel
theorem dX1_init_53 : decode cX1_init 53 = .ok (.bipush 16, 2) := by decide +kernel
theorem dX1_init_55 : decode cX1_init 55 = .ok (.newarray .int, 2) := by decide +kernel
theorem dX1_init_57 : decode cX1_init 57 = .ok (.putfield 30, 3) := by decide +kernel
theorem dX1_init_60 : decode cX1_init 60 = .ok (.aload_n 0, 1) := by decide +kernel
theorem dX1_init_61 : decode cX1_init 61 = .ok (.getstatic 33, 3) := by decide +kernel
theorem dX1_init_64 : decode cX1_init 64 = .ok (.invokevirtual 36, 3) := by decide +kernel
theorem dX1_init_67 : decode cX1_init 67 = .ok (.checkcast 37, 3) := by decide +kernel
theorem dX1_init_70 : decode cX1_init 70 = .ok (.putfield 41, 3) := by decide +kernel
theorem dX1_init_73 : decode cX1_init 73 = .ok (.return_, 1) := by decide +kernel
theorem dX1_copyFrom_0 : decode cX1_copyFrom 0 = .ok (.aload_n 1, 1) := by decide +kernel
theorem dX1_copyFrom_1 : decode cX1_copyFrom 1 = .ok (.getfield 9, 3) := by decide +kernel
theorem dX1_copyFrom_4 : decode cX1_copyFrom 4 = .ok (.iconst 0, 1) := by decide +kernel
theorem dX1_copyFrom_5 : decode cX1_copyFrom 5 = .ok (.aload_n 0, 1) := by decide +kernel
theorem dX1_copyFrom_6 : decode cX1_copyFrom 6 = .ok (.getfield 9, 3) := by decide +kernel
theorem dX1_copyFrom_9 : decode cX1_copyFrom 9 = .ok (.iconst 0, 1) := by decide +kernel
theorem dX1_copyFrom_10 : decode cX1_copyFrom 10 = .ok (.bipush 16, 2) := by decide +kernel
theorem dX1_copyFrom_12 : decode cX1_copyFrom 12 = .ok (.invokestatic 44, 3) := by decide +kernel
theorem dX1_copyFrom_15 : decode cX1_copyFrom 15 = .ok (.aload_n 1, 1) := by decide +kernel
theorem dX1_copyFrom_16 : decode cX1_copyFrom 16 = .ok (.getfield 15, 3) := by decide +kernel
theorem dX1_copyFrom_19 : decode cX1_copyFrom 19 = .ok (.iconst 0, 1) := by decide +kernel
theorem dX1_copyFrom_20 : decode cX1_copyFrom 20 = .ok (.aload_n 0, 1) := by decide +kernel
theorem dX1_copyFrom_21 : decode cX1_copyFrom 21 = .ok (.getfield 15, 3) := by decide +kernel
theorem dX1_copyFrom_24 : decode cX1_copyFrom 24 = .ok (.iconst 0, 1) := by decide +kernel
theorem dX1_copyFrom_25 : decode cX1_copyFrom 25 = .ok (.bipush 16, 2) := by decide +kernel
theorem dX1_copyFrom_27 : decode cX1_copyFrom 27 = .ok (.invokestatic 44, 3) := by decide +kernel
theorem dX1_copyFrom_30 : decode cX1_copyFrom 30 = .ok (.aload_n 1, 1) := by decide +kernel
theorem dX1_copyFrom_31 : decode cX1_copyFrom 31 = .ok (.getfield 18, 3) := by decide +kernel
theorem dX1_copyFrom_34 : decode cX1_copyFrom 34 = .ok (.iconst 0, 1) := by decide +kernel
theorem dX1_copyFrom_35 : decode cX1_copyFrom 35 = .ok (.aload_n 0, 1) := by decide +kernel
theorem dX1_copyFrom_36 : decode cX1_copyFrom 36 = .ok (.getfield 18, 3) := by decide +kernel
theorem dX1_copyFrom_39 : decode cX1_copyFrom 39 = .ok (.iconst 0, 1) := by decide +kernel
theorem dX1_copyFrom_40 : decode cX1_copyFrom 40 = .ok (.bipush 16, 2) := by decide +kernel
theorem dX1_copyFrom_42 : decode cX1_copyFrom 42 = .ok (.invokestatic 44, 3) := by decide +kernel
theorem dX1_copyFrom_45 : decode cX1_copyFrom 45 = .ok (.aload_n 1, 1) := by decide +kernel
theorem dX1_copyFrom_46 : decode cX1_copyFrom 46 = .ok (.getfield 21, 3) := by decide +kernel
theorem dX1_copyFrom_49 : decode cX1_copyFrom 49 = .ok (.iconst 0, 1) := by decide +kernel
theorem dX1_copyFrom_50 : decode cX1_copyFrom 50 = .ok (.aload_n 0, 1) := by decide +kernel
theorem dX1_copyFrom_51 : decode cX1_copyFrom 51 = .ok (.getfield 21, 3) := by decide +kernel
theorem dX1_copyFrom_54 : decode cX1_copyFrom 54 = .ok (.iconst 0, 1) := by decide +kernel
theorem dX1_copyFrom_55 : decode cX1_copyFrom 55 = .ok (.bipush 16, 2) := by decide +kernel
theorem dX1_copyFrom_57 : decode cX1_copyFrom 57 = .ok (.invokestatic 44, 3) := by decide +kernel
theorem dX1_copyFrom_60 : decode cX1_copyFrom 60 = .ok (.aload_n 1, 1) := by decide +kernel
theorem dX1_copyFrom_61 : decode cX1_copyFrom 61 = .ok (.getfield 24, 3) := by decide +kernel
theorem dX1_copyFrom_64 : decode cX1_copyFrom 64 = .ok (.iconst 0, 1) := by decide +kernel
theorem dX1_copyFrom_65 : decode cX1_copyFrom 65 = .ok (.aload_n 0, 1) := by decide +kernel
theorem dX1_copyFrom_66 : decode cX1_copyFrom 66 = .ok (.getfield 24, 3) := by decide +kernel
theorem dX1_copyFrom_69 : decode cX1_copyFrom 69 = .ok (.iconst 0, 1) := by decide +kernel
theorem dX1_copyFrom_70 : decode cX1_copyFrom 70 = .ok (.bipush 16, 2) := by decide +kernel
theorem dX1_copyFrom_72 : decode cX1_copyFrom 72 = .ok (.invokestatic 44, 3) := by decide +kernel
theorem dX1_copyFrom_75 : decode cX1_copyFrom 75 = .ok (.aload_n 1, 1) := by decide +kernel
theorem dX1_copyFrom_76 : decode cX1_copyFrom 76 = .ok (.getfield 27, 3) := by decide +kernel
theorem dX1_copyFrom_79 : decode cX1_copyFrom 79 = .ok (.iconst 0, 1) := by decide +kernel
theorem dX1_copyFrom_80 : decode cX1_copyFrom 80 = .ok (.aload_n 0, 1) := by decide +kernel
theorem dX1_copyFrom_81 : decode cX1_copyFrom 81 = .ok (.getfield 27, 3) := by decide +kernel
theorem dX1_copyFrom_84 : decode cX1_copyFrom 84 = .ok (.iconst 0, 1) := by decide +kernel
theorem dX1_copyFrom_85 : decode cX1_copyFrom 85 = .ok (.bipush 16, 2) := by decide +kernel
theorem dX1_copyFrom_87 : decode cX1_copyFrom 87 = .ok (.invokestatic 44, 3) := by decide +kernel
theorem dX1_copyFrom_90 : decode cX1_copyFrom 90 = .ok (.aload_n 1, 1) := by decide +kernel
theorem dX1_copyFrom_91 : decode cX1_copyFrom 91 = .ok (.getfield 30, 3) := by decide +kernel
theorem dX1_copyFrom_94 : decode cX1_copyFrom 94 = .ok (.iconst 0, 1) := by decide +kernel
theorem dX1_copyFrom_95 : decode cX1_copyFrom 95 = .ok (.aload_n 0, 1) := by decide +kernel
theorem dX1_copyFrom_96 : decode cX1_copyFrom 96 = .ok (.getfield 30, 3) := by decide +kernel
theorem dX1_copyFrom_99 : decode cX1_copyFrom 99 = .ok (.iconst 0, 1) := by decide +kernel
theorem dX1_copyFrom_100 : decode cX1_copyFrom 100 = .ok (.bipush 16, 2) := by decide +kernel
theorem dX1_copyFrom_102 : decode cX1_copyFrom 102 = .ok (.invokestatic 44, 3) := by decide +kernel
theorem dX1_copyFrom_105 : decode cX1_copyFrom 105 = .ok (.aload_n 1, 1) := by decide +kernel
theorem dX1_copyFrom_106 : decode cX1_copyFrom 106 = .ok (.getfield 41, 3) := by decide +kernel
theorem dX1_copyFrom_109 : decode cX1_copyFrom 109 = .ok (.iconst 0, 1) := by decide +kernel
theorem dX1_copyFrom_110 : decode cX1_copyFrom 110 = .ok (.aload_n 0, 1) := by decide +kernel
theorem dX1_copyFrom_111 : decode cX1_copyFrom 111 = .ok (.getfield 41, 3) := by decide +kernel
theorem dX1_copyFrom_114 : decode cX1_copyFrom 114 = .ok (.iconst 0, 1) := by decide +kernel
theorem dX1_copyFrom_115 : decode cX1_copyFrom 115 = .ok (.iconst 3, 1) := by decide +kernel
theorem dX1_copyFrom_116 : decode cX1_copyFrom 116 = .ok (.invokestatic 44, 3) := by decide +kernel
theorem dX1_copyFrom_119 : decode cX1_copyFrom 119 = .ok (.aload_n 0, 1) := by decide +kernel
theorem dX1_copyFrom_120 : decode cX1_copyFrom 120 = .ok (.aload_n 1, 1) := by decide +kernel
theorem dX1_copyFrom_121 : decode cX1_copyFrom 121 = .ok (.getfield 50, 3) := by decide +kernel
theorem dX1_copyFrom_124 : decode cX1_copyFrom 124 = .ok (.putfield 50, 3) := by decide +kernel
theorem dX1_copyFrom_127 : decode cX1_copyFrom 127 = .ok (.aload_n 0, 1) := by decide +kernel
theorem dX1_copyFrom_128 : decode cX1_copyFrom 128 = .ok (.aload_n 1, 1) := by decide +kernel
theorem dX1_copyFrom_129 : decode cX1_copyFrom 129 = .ok (.getfield 54, 3) := by decide +kernel
theorem dX1_copyFrom_132 : decode cX1_copyFrom 132 = .ok (.putfield 54, 3) := by decide +kernel
theorem dX1_copyFrom_135 : decode cX1_copyFrom 135 = .ok (.aload_n 0, 1) := by decide +kernel
theorem dX1_copyFrom_136 : decode cX1_copyFrom 136 = .ok (.aload_n 1, 1) := by decide +kernel
theorem dX1_copyFrom_137 : decode cX1_copyFrom 137 = .ok (.getfield 57, 3) := by decide +kernel
theorem dX1_copyFrom_140 : decode cX1_copyFrom 140 = .ok (.putfield 57, 3) := by decide +kernel
theorem dX1_copyFrom_143 : decode cX1_copyFrom 143 = .ok (.aload_n 0, 1) := by decide +kernel
theorem dX1_copyFrom_144 : decode cX1_copyFrom 144 = .ok (.aload_n 1, 1) := by decide +kernel
theorem dX1_copyFrom_145 : decode cX1_copyFrom 145 = .ok (.getfield 60, 3) := by decide +kernel
theorem dX1_copyFrom_148 : decode cX1_copyFrom 148 = .ok (.putfield 60, 3) := by decide +kernel
theorem dX1_copyFrom_151 : decode cX1_copyFrom 151 = .ok (.aload_n 0, 1) := by decide +kernel
theorem dX1_copyFrom_152 : decode cX1_copyFrom 152 = .ok (.aload_n 1, 1) := by decide +kernel
theorem dX1_copyFrom_153 : decode cX1_copyFrom 153 = .ok (.getfield 63, 3) := by decide +kernel
theorem dX1_copyFrom_156 : decode cX1_copyFrom 156 = .ok (.putfield 63, 3) := by decide +kernel
theorem dX1_copyFrom_159 : decode cX1_copyFrom 159 = .ok (.aload_n 0, 1) := by decide +kernel
theorem dX1_copyFrom_160 : decode cX1_copyFrom 160 = .ok (.aload_n 1, 1) := by decide +kernel
theorem dX1_copyFrom_161 : decode cX1_copyFrom 161 = .ok (.getfield 66, 3) := by decide +kernel
theorem dX1_copyFrom_164 : decode cX1_copyFrom 164 = .ok (.putfield 66, 3) := by decide +kernel
theorem dX1_copyFrom_167 : decode cX1_copyFrom 167 = .ok (.aload_n 0, 1) := by decide +kernel
theorem dX1_copyFrom_168 : decode cX1_copyFrom 168 = .ok (.aload_n 1, 1) := by decide +kernel
theorem dX1_copyFrom_169 : decode cX1_copyFrom 169 = .ok (.getfield 69, 3) := by decide +kernel
theorem dX1_copyFrom_172 : decode cX1_copyFrom 172 = .ok (.putfield 69, 3) := by decide +kernel
theorem dX1_copyFrom_175 : decode cX1_copyFrom 175 = .ok (.return_, 1) := by decide +kernel
theorem dX1_has_0 : decode cX1_has 0 = .ok (.iload_n 1, 1) := by decide +kernel
theorem dX1_has_1 : decode cX1_has 1 = .ok (.ifCond .lt 24, 3) := by decide +kernel
theorem dX1_has_4 : decode cX1_has 4 = .ok (.iload_n 1, 1) := by decide +kernel
theorem dX1_has_5 : decode cX1_has 5 = .ok (.bipush 16, 2) := by decide +kernel
theorem dX1_has_7 : decode cX1_has 7 = .ok (.if_icmp .ge 18, 3) := by decide +kernel
theorem dX1_has_10 : decode cX1_has 10 = .ok (.aload_n 0, 1) := by decide +kernel
theorem dX1_has_11 : decode cX1_has 11 = .ok (.getfield 50, 3) := by decide +kernel
theorem dX1_has_14 : decode cX1_has 14 = .ok (.iload_n 1, 1) := by decide +kernel
theorem dX1_has_15 : decode cX1_has 15 = .ok (.invokestatic 72, 3) := by decide +kernel
theorem dX1_has_18 : decode cX1_has 18 = .ok (.ifCond .eq 7, 3) := by decide +kernel
theorem dX1_has_21 : decode cX1_has 21 = .ok (.iconst 1, 1) := by decide +kernel
theorem dX1_has_22 : decode cX1_has 22 = .ok (.goto 4, 3) := by decide +kernel
theorem dX1_has_25 : decode cX1_has 25 = .ok (.iconst 0, 1) := by decide +kernel
theorem dX1_has_26 : decode cX1_has 26 = .ok (.ireturn, 1) := by decide +kernel
theorem dX1_isOn_0 : decode cX1_isOn 0 = .ok (.aload_n 0, 1) := by decide +kernel
theorem dX1_isOn_1 : decode cX1_isOn 1 = .ok (.getfield 54, 3) := by decide +kernel
theorem dX1_isOn_4 : decode cX1_isOn 4 = .ok (.iload_n 1, 1) := by decide +kernel
theorem dX1_isOn_5 : decode cX1_isOn 5 = .ok (.invokestatic 72, 3) := by decide +kernel
theorem dX1_isOn_8 : decode cX1_isOn 8 = .ok (.ireturn, 1) := by decide +kernel
theorem dX1_isLinked_0 : decode cX1_isLinked 0 = .ok (.aload_n 0, 1) := by decide +kernel
theorem dX1_isLinked_1 : decode cX1_isLinked 1 = .ok (.getfield 21, 3) := by decide +kernel
theorem dX1_isLinked_4 : decode cX1_isLinked 4 = .ok (.iload_n 1, 1) := by decide +kernel
theorem dX1_isLinked_5 : decode cX1_isLinked 5 = .ok (.iaload, 1) := by decide +kernel
theorem dX1_isLinked_6 : decode cX1_isLinked 6 = .ok (.iload_n 2, 1) := by decide +kernel
theorem dX1_isLinked_7 : decode cX1_isLinked 7 = .ok (.invokestatic 72, 3) := by decide +kernel
theorem dX1_isLinked_10 : decode cX1_isLinked 10 = .ok (.ireturn, 1) := by decide +kernel
theorem dX1_couldLink_0 : decode cX1_couldLink 0 = .ok (.aload_n 0, 1) := by decide +kernel
theorem dX1_couldLink_1 : decode cX1_couldLink 1 = .ok (.iload_n 1, 1) := by decide +kernel
theorem dX1_couldLink_2 : decode cX1_couldLink 2 = .ok (.invokevirtual 76, 3) := by decide +kernel
theorem dX1_couldLink_5 : decode cX1_couldLink 5 = .ok (.ifCond .eq 24, 3) := by decide +kernel
theorem dX1_couldLink_8 : decode cX1_couldLink 8 = .ok (.aload_n 0, 1) := by decide +kernel
theorem dX1_couldLink_9 : decode cX1_couldLink 9 = .ok (.iload_n 2, 1) := by decide +kernel
theorem dX1_couldLink_10 : decode cX1_couldLink 10 = .ok (.invokevirtual 76, 3) := by decide +kernel
theorem dX1_couldLink_13 : decode cX1_couldLink 13 = .ok (.ifCond .eq 16, 3) := by decide +kernel
theorem dX1_couldLink_16 : decode cX1_couldLink 16 = .ok (.aload_n 0, 1) := by decide +kernel
theorem dX1_couldLink_17 : decode cX1_couldLink 17 = .ok (.iload_n 1, 1) := by decide +kernel
theorem dX1_couldLink_18 : decode cX1_couldLink 18 = .ok (.iload_n 2, 1) := by decide +kernel
theorem dX1_couldLink_19 : decode cX1_couldLink 19 = .ok (.invokevirtual 80, 3) := by decide +kernel
theorem dX1_couldLink_22 : decode cX1_couldLink 22 = .ok (.ifCond .ne 7, 3) := by decide +kernel
theorem dX1_couldLink_25 : decode cX1_couldLink 25 = .ok (.iconst 1, 1) := by decide +kernel
theorem dX1_couldLink_26 : decode cX1_couldLink 26 = .ok (.goto 4, 3) := by decide +kernel
theorem dX1_couldLink_29 : decode cX1_couldLink 29 = .ok (.iconst 0, 1) := by decide +kernel
theorem dX1_couldLink_30 : decode cX1_couldLink 30 = .ok (.ireturn, 1) := by decide +kernel
theorem dX1_isWholePhase_0 : decode cX1_isWholePhase 0 = .ok (.iload_n 1, 1) := by decide +kernel
theorem dX1_isWholePhase_1 : decode cX1_isWholePhase 1 = .ok (.ifCond .lt 17, 3) := by decide +kernel
theorem dX1_isWholePhase_4 : decode cX1_isWholePhase 4 = .ok (.iload_n 1, 1) := by decide +kernel
theorem dX1_isWholePhase_5 : decode cX1_isWholePhase 5 = .ok (.aload_n 0, 1) := by decide +kernel
theorem dX1_isWholePhase_6 : decode cX1_isWholePhase 6 = .ok (.getfield 41, 3) := by decide +kernel
theorem dX1_isWholePhase_9 : decode cX1_isWholePhase 9 = .ok (.iconst 0, 1) := by decide +kernel
theorem dX1_isWholePhase_10 : decode cX1_isWholePhase 10 = .ok (.iaload, 1) := by decide +kernel
theorem dX1_isWholePhase_11 : decode cX1_isWholePhase 11 = .ok (.if_icmp .ge 7, 3) := by decide +kernel
theorem dX1_isWholePhase_14 : decode cX1_isWholePhase 14 = .ok (.iconst 1, 1) := by decide +kernel
theorem dX1_isWholePhase_15 : decode cX1_isWholePhase 15 = .ok (.goto 4, 3) := by decide +kernel
theorem dX1_isWholePhase_18 : decode cX1_isWholePhase 18 = .ok (.iconst 0, 1) := by decide +kernel
theorem dX1_isWholePhase_19 : decode cX1_isWholePhase 19 = .ok (.ireturn, 1) := by decide +kernel
theorem dX1_setting_0 : decode cX1_setting 0 = .ok (.aload_n 0, 1) := by decide +kernel
theorem dX1_setting_1 : decode cX1_setting 1 = .ok (.getfield 41, 3) := by decide +kernel
theorem dX1_setting_4 : decode cX1_setting 4 = .ok (.iload_n 1, 1) := by decide +kernel
theorem dX1_setting_5 : decode cX1_setting 5 = .ok (.iaload, 1) := by decide +kernel
theorem dX1_setting_6 : decode cX1_setting 6 = .ok (.ireturn, 1) := by decide +kernel
theorem dX1_tickNumber_0 : decode cX1_tickNumber 0 = .ok (.aload_n 0, 1) := by decide +kernel
theorem dX1_tickNumber_1 : decode cX1_tickNumber 1 = .ok (.getfield 57, 3) := by decide +kernel
theorem dX1_tickNumber_4 : decode cX1_tickNumber 4 = .ok (.ireturn, 1) := by decide +kernel
theorem dX1_allBlinks_0 : decode cX1_allBlinks 0 = .ok (.aload_n 0, 1) := by decide +kernel
theorem dX1_allBlinks_1 : decode cX1_allBlinks 1 = .ok (.getfield 60, 3) := by decide +kernel
theorem dX1_allBlinks_4 : decode cX1_allBlinks 4 = .ok (.ireturn, 1) := by decide +kernel
theorem dX1_lamps_0 : decode cX1_lamps 0 = .ok (.aload_n 0, 1) := by decide +kernel
theorem dX1_lamps_1 : decode cX1_lamps 1 = .ok (.getfield 50, 3) := by decide +kernel
theorem dX1_lamps_4 : decode cX1_lamps 4 = .ok (.invokestatic 83, 3) := by decide +kernel
theorem dX1_lamps_7 : decode cX1_lamps 7 = .ok (.ireturn, 1) := by decide +kernel
theorem dX1_lampsOn_0 : decode cX1_lampsOn 0 = .ok (.aload_n 0, 1) := by decide +kernel
theorem dX1_lampsOn_1 : decode cX1_lampsOn 1 = .ok (.getfield 54, 3) := by decide +kernel
theorem dX1_lampsOn_4 : decode cX1_lampsOn 4 = .ok (.invokestatic 83, 3) := by decide +kernel
theorem dX1_lampsOn_7 : decode cX1_lampsOn 7 = .ok (.ireturn, 1) := by decide +kernel
theorem dX1_links_0 : decode cX1_links 0 = .ok (.iconst 0, 1) := by decide +kernel
theorem dX1_links_1 : decode cX1_links 1 = .ok (.istore_n 1, 1) := by decide +kernel
theorem dX1_links_2 : decode cX1_links 2 = .ok (.iconst 0, 1) := by decide +kernel
theorem dX1_links_3 : decode cX1_links 3 = .ok (.istore_n 2, 1) := by decide +kernel
theorem dX1_links_4 : decode cX1_links 4 = .ok (.iload_n 2, 1) := by decide +kernel
theorem dX1_links_5 : decode cX1_links 5 = .ok (.bipush 16, 2) := by decide +kernel
theorem dX1_links_7 : decode cX1_links 7 = .ok (.if_icmp .ge 21, 3) := by decide +kernel
theorem dX1_links_10 : decode cX1_links 10 = .ok (.iload_n 1, 1) := by decide +kernel
theorem dX1_links_11 : decode cX1_links 11 = .ok (.aload_n 0, 1) := by decide +kernel
theorem dX1_links_12 : decode cX1_links 12 = .ok (.getfield 21, 3) := by decide +kernel
theorem dX1_links_15 : decode cX1_links 15 = .ok (.iload_n 2, 1) := by decide +kernel
theorem dX1_links_16 : decode cX1_links 16 = .ok (.iaload, 1) := by decide +kernel
theorem dX1_links_17 : decode cX1_links 17 = .ok (.invokestatic 83, 3) := by decide +kernel
theorem dX1_links_20 : decode cX1_links 20 = .ok (.iadd, 1) := by decide +kernel
theorem dX1_links_21 : decode cX1_links 21 = .ok (.istore_n 1, 1) := by decide +kernel
theorem dX1_links_22 : decode cX1_links 22 = .ok (.iinc 2 1, 3) := by decide +kernel
theorem dX1_links_25 : decode cX1_links 25 = .ok (.goto (-21), 3) := by decide +kernel
theorem dX1_links_28 : decode cX1_links 28 = .ok (.iload_n 1, 1) := by decide +kernel
theorem dX1_links_29 : decode cX1_links 29 = .ok (.iconst 2, 1) := by decide +kernel
theorem dX1_links_30 : decode cX1_links 30 = .ok (.idiv, 1) := by decide +kernel
theorem dX1_links_31 : decode cX1_links 31 = .ok (.ireturn, 1) := by decide +kernel
theorem dX1_freeNumber_0 : decode cX1_freeNumber 0 = .ok (.iconst 0, 1) := by decide +kernel
theorem dX1_freeNumber_1 : decode cX1_freeNumber 1 = .ok (.istore_n 1, 1) := by decide +kernel
theorem dX1_freeNumber_2 : decode cX1_freeNumber 2 = .ok (.iload_n 1, 1) := by decide +kernel
theorem dX1_freeNumber_3 : decode cX1_freeNumber 3 = .ok (.bipush 16, 2) := by decide +kernel
theorem dX1_freeNumber_5 : decode cX1_freeNumber 5 = .ok (.if_icmp .ge 22, 3) := by decide +kernel
theorem dX1_freeNumber_8 : decode cX1_freeNumber 8 = .ok (.aload_n 0, 1) := by decide +kernel
theorem dX1_freeNumber_9 : decode cX1_freeNumber 9 = .ok (.getfield 50, 3) := by decide +kernel
theorem dX1_freeNumber_12 : decode cX1_freeNumber 12 = .ok (.iload_n 1, 1) := by decide +kernel
theorem dX1_freeNumber_13 : decode cX1_freeNumber 13 = .ok (.invokestatic 72, 3) := by decide +kernel
theorem dX1_freeNumber_16 : decode cX1_freeNumber 16 = .ok (.ifCond .ne 5, 3) := by decide +kernel
theorem dX1_freeNumber_19 : decode cX1_freeNumber 19 = .ok (.iload_n 1, 1) := by decide +kernel
theorem dX1_freeNumber_20 : decode cX1_freeNumber 20 = .ok (.ireturn, 1) := by decide +kernel
theorem dX1_freeNumber_21 : decode cX1_freeNumber 21 = .ok (.iinc 1 1, 3) := by decide +kernel
theorem dX1_freeNumber_24 : decode cX1_freeNumber 24 = .ok (.goto (-22), 3) := by decide +kernel
theorem dX1_freeNumber_27 : decode cX1_freeNumber 27 = .ok (.iconst (-1), 1) := by decide +kernel
theorem dX1_freeNumber_28 : decode cX1_freeNumber 28 = .ok (.ireturn, 1) := by decide +kernel
theorem dX1_place_0 : decode cX1_place 0 = .ok (.aload_n 0, 1) := by decide +kernel
theorem dX1_place_1 : decode cX1_place 1 = .ok (.dup, 1) := by decide +kernel
theorem dX1_place_2 : decode cX1_place 2 = .ok (.getfield 50, 3) := by decide +kernel
theorem dX1_place_5 : decode cX1_place 5 = .ok (.iconst 1, 1) := by decide +kernel
theorem dX1_place_6 : decode cX1_place 6 = .ok (.iload_n 1, 1) := by decide +kernel
theorem dX1_place_7 : decode cX1_place 7 = .ok (.ishl, 1) := by decide +kernel
theorem dX1_place_8 : decode cX1_place 8 = .ok (.ior, 1) := by decide +kernel
theorem dX1_place_9 : decode cX1_place 9 = .ok (.putfield 50, 3) := by decide +kernel
theorem dX1_place_12 : decode cX1_place 12 = .ok (.aload_n 0, 1) := by decide +kernel
theorem dX1_place_13 : decode cX1_place 13 = .ok (.dup, 1) := by decide +kernel
theorem dX1_place_14 : decode cX1_place 14 = .ok (.getfield 54, 3) := by decide +kernel
theorem dX1_place_17 : decode cX1_place 17 = .ok (.iconst 1, 1) := by decide +kernel
theorem dX1_place_18 : decode cX1_place 18 = .ok (.iload_n 1, 1) := by decide +kernel
theorem dX1_place_19 : decode cX1_place 19 = .ok (.ishl, 1) := by decide +kernel
theorem dX1_place_20 : decode cX1_place 20 = .ok (.ior, 1) := by decide +kernel
theorem dX1_place_21 : decode cX1_place 21 = .ok (.putfield 54, 3) := by decide +kernel
theorem dX1_place_24 : decode cX1_place 24 = .ok (.aload_n 0, 1) := by decide +kernel
theorem dX1_place_25 : decode cX1_place 25 = .ok (.getfield 9, 3) := by decide +kernel
theorem dX1_place_28 : decode cX1_place 28 = .ok (.iload_n 1, 1) := by decide +kernel
theorem dX1_place_29 : decode cX1_place 29 = .ok (.iload_n 2, 1) := by decide +kernel
theorem dX1_place_30 : decode cX1_place 30 = .ok (.bipush 100, 2) := by decide +kernel
theorem dX1_place_32 : decode cX1_place 32 = .ok (.imul, 1) := by decide +kernel
theorem dX1_place_33 : decode cX1_place 33 = .ok (.iastore, 1) := by decide +kernel
theorem dX1_place_34 : decode cX1_place 34 = .ok (.aload_n 0, 1) := by decide +kernel
theorem dX1_place_35 : decode cX1_place 35 = .ok (.getfield 15, 3) := by decide +kernel
theorem dX1_place_38 : decode cX1_place 38 = .ok (.iload_n 1, 1) := by decide +kernel
theorem dX1_place_39 : decode cX1_place 39 = .ok (.iload_n 3, 1) := by decide +kernel
theorem dX1_place_40 : decode cX1_place 40 = .ok (.iastore, 1) := by decide +kernel
theorem dX1_place_41 : decode cX1_place 41 = .ok (.aload_n 0, 1) := by decide +kernel
theorem dX1_place_42 : decode cX1_place 42 = .ok (.getfield 18, 3) := by decide +kernel
theorem dX1_place_45 : decode cX1_place 45 = .ok (.iload_n 1, 1) := by decide +kernel
theorem dX1_place_46 : decode cX1_place 46 = .ok (.iconst 0, 1) := by decide +kernel
theorem dX1_place_47 : decode cX1_place 47 = .ok (.iastore, 1) := by decide +kernel
theorem dX1_place_48 : decode cX1_place 48 = .ok (.aload_n 0, 1) := by decide +kernel
theorem dX1_place_49 : decode cX1_place 49 = .ok (.getfield 21, 3) := by decide +kernel
theorem dX1_place_52 : decode cX1_place 52 = .ok (.iload_n 1, 1) := by decide +kernel
theorem dX1_place_53 : decode cX1_place 53 = .ok (.iconst 0, 1) := by decide +kernel
theorem dX1_place_54 : decode cX1_place 54 = .ok (.iastore, 1) := by decide +kernel
theorem dX1_place_55 : decode cX1_place 55 = .ok (.aload_n 0, 1) := by decide +kernel
theorem dX1_place_56 : decode cX1_place 56 = .ok (.getfield 24, 3) := by decide +kernel
theorem dX1_place_59 : decode cX1_place 59 = .ok (.iload_n 1, 1) := by decide +kernel
theorem dX1_place_60 : decode cX1_place 60 = .ok (.iconst 0, 1) := by decide +kernel
theorem dX1_place_61 : decode cX1_place 61 = .ok (.iastore, 1) := by decide +kernel
theorem dX1_place_62 : decode cX1_place 62 = .ok (.aload_n 0, 1) := by decide +kernel
theorem dX1_place_63 : decode cX1_place 63 = .ok (.getfield 27, 3) := by decide +kernel
theorem dX1_place_66 : decode cX1_place 66 = .ok (.iload_n 1, 1) := by decide +kernel
theorem dX1_place_67 : decode cX1_place 67 = .ok (.iconst 0, 1) := by decide +kernel
theorem dX1_place_68 : decode cX1_place 68 = .ok (.iastore, 1) := by decide +kernel
theorem dX1_place_69 : decode cX1_place 69 = .ok (.aload_n 0, 1) := by decide +kernel
theorem dX1_place_70 : decode cX1_place 70 = .ok (.getfield 30, 3) := by decide +kernel
theorem dX1_place_73 : decode cX1_place 73 = .ok (.iload_n 1, 1) := by decide +kernel
theorem dX1_place_74 : decode cX1_place 74 = .ok (.iconst 0, 1) := by decide +kernel
theorem dX1_place_75 : decode cX1_place 75 = .ok (.iastore, 1) := by decide +kernel
theorem dX1_place_76 : decode cX1_place 76 = .ok (.return_, 1) := by decide +kernel
theorem dX1_remove_0 : decode cX1_remove 0 = .ok (.aload_n 0, 1) := by decide +kernel
theorem dX1_remove_1 : decode cX1_remove 1 = .ok (.getfield 21, 3) := by decide +kernel
theorem dX1_remove_4 : decode cX1_remove 4 = .ok (.iload_n 1, 1) := by decide +kernel
theorem dX1_remove_5 : decode cX1_remove 5 = .ok (.iaload, 1) := by decide +kernel
theorem dX1_remove_6 : decode cX1_remove 6 = .ok (.invokestatic 83, 3) := by decide +kernel
theorem dX1_remove_9 : decode cX1_remove 9 = .ok (.istore_n 2, 1) := by decide +kernel
theorem dX1_remove_10 : decode cX1_remove 10 = .ok (.iconst 1, 1) := by decide +kernel
theorem dX1_remove_11 : decode cX1_remove 11 = .ok (.iload_n 1, 1) := by decide +kernel
theorem dX1_remove_12 : decode cX1_remove 12 = .ok (.ishl, 1) := by decide +kernel
theorem dX1_remove_13 : decode cX1_remove 13 = .ok (.iconst (-1), 1) := by decide +kernel
theorem dX1_remove_14 : decode cX1_remove 14 = .ok (.ixor, 1) := by decide +kernel
theorem dX1_remove_15 : decode cX1_remove 15 = .ok (.istore_n 3, 1) := by decide +kernel
theorem dX1_remove_16 : decode cX1_remove 16 = .ok (.aload_n 0, 1) := by decide +kernel
theorem dX1_remove_17 : decode cX1_remove 17 = .ok (.dup, 1) := by decide +kernel
theorem dX1_remove_18 : decode cX1_remove 18 = .ok (.getfield 50, 3) := by decide +kernel
theorem dX1_remove_21 : decode cX1_remove 21 = .ok (.iload_n 3, 1) := by decide +kernel
theorem dX1_remove_22 : decode cX1_remove 22 = .ok (.iand, 1) := by decide +kernel
theorem dX1_remove_23 : decode cX1_remove 23 = .ok (.putfield 50, 3) := by decide +kernel
theorem dX1_remove_26 : decode cX1_remove 26 = .ok (.aload_n 0, 1) := by decide +kernel
theorem dX1_remove_27 : decode cX1_remove 27 = .ok (.dup, 1) := by decide +kernel
theorem dX1_remove_28 : decode cX1_remove 28 = .ok (.getfield 54, 3) := by decide +kernel
theorem dX1_remove_31 : decode cX1_remove 31 = .ok (.iload_n 3, 1) := by decide +kernel
theorem dX1_remove_32 : decode cX1_remove 32 = .ok (.iand, 1) := by decide +kernel
theorem dX1_remove_33 : decode cX1_remove 33 = .ok (.putfield 54, 3) := by decide +kernel
theorem dX1_remove_36 : decode cX1_remove 36 = .ok (.aload_n 0, 1) := by decide +kernel
theorem dX1_remove_37 : decode cX1_remove 37 = .ok (.getfield 21, 3) := by decide +kernel
theorem dX1_remove_40 : decode cX1_remove 40 = .ok (.iload_n 1, 1) := by decide +kernel
theorem dX1_remove_41 : decode cX1_remove 41 = .ok (.iconst 0, 1) := by decide +kernel
theorem dX1_remove_42 : decode cX1_remove 42 = .ok (.iastore, 1) := by decide +kernel
theorem dX1_remove_43 : decode cX1_remove 43 = .ok (.iconst 0, 1) := by decide +kernel
theorem dX1_remove_44 : decode cX1_remove 44 = .ok (.istore 4, 2) := by decide +kernel
theorem dX1_remove_46 : decode cX1_remove 46 = .ok (.iload 4, 2) := by decide +kernel
theorem dX1_remove_48 : decode cX1_remove 48 = .ok (.bipush 16, 2) := by decide +kernel
theorem dX1_remove_50 : decode cX1_remove 50 = .ok (.if_icmp .ge 20, 3) := by decide +kernel
theorem dX1_remove_53 : decode cX1_remove 53 = .ok (.aload_n 0, 1) := by decide +kernel
theorem dX1_remove_54 : decode cX1_remove 54 = .ok (.getfield 21, 3) := by decide +kernel
theorem dX1_remove_57 : decode cX1_remove 57 = .ok (.iload 4, 2) := by decide +kernel
theorem dX1_remove_59 : decode cX1_remove 59 = .ok (.dup2, 1) := by decide +kernel
theorem dX1_remove_60 : decode cX1_remove 60 = .ok (.iaload, 1) := by decide +kernel
theorem dX1_remove_61 : decode cX1_remove 61 = .ok (.iload_n 3, 1) := by decide +kernel
theorem dX1_remove_62 : decode cX1_remove 62 = .ok (.iand, 1) := by decide +kernel
theorem dX1_remove_63 : decode cX1_remove 63 = .ok (.iastore, 1) := by decide +kernel
theorem dX1_remove_64 : decode cX1_remove 64 = .ok (.iinc 4 1, 3) := by decide +kernel
theorem dX1_remove_67 : decode cX1_remove 67 = .ok (.goto (-21), 3) := by decide +kernel
theorem dX1_remove_70 : decode cX1_remove 70 = .ok (.iload_n 2, 1) := by decide +kernel
theorem dX1_remove_71 : decode cX1_remove 71 = .ok (.ireturn, 1) := by decide +kernel
theorem dX1_switchTo_0 : decode cX1_switchTo 0 = .ok (.iload_n 2, 1) := by decide +kernel
theorem dX1_switchTo_1 : decode cX1_switchTo 1 = .ok (.ifCond .eq 18, 3) := by decide +kernel
theorem dX1_switchTo_4 : decode cX1_switchTo 4 = .ok (.aload_n 0, 1) := by decide +kernel
theorem dX1_switchTo_5 : decode cX1_switchTo 5 = .ok (.dup, 1) := by decide +kernel
theorem dX1_switchTo_6 : decode cX1_switchTo 6 = .ok (.getfield 54, 3) := by decide +kernel
theorem dX1_switchTo_9 : decode cX1_switchTo 9 = .ok (.iconst 1, 1) := by decide +kernel
theorem dX1_switchTo_10 : decode cX1_switchTo 10 = .ok (.iload_n 1, 1) := by decide +kernel
theorem dX1_switchTo_11 : decode cX1_switchTo 11 = .ok (.ishl, 1) := by decide +kernel
theorem dX1_switchTo_12 : decode cX1_switchTo 12 = .ok (.ior, 1) := by decide +kernel
theorem dX1_switchTo_13 : decode cX1_switchTo 13 = .ok (.putfield 54, 3) := by decide +kernel
theorem dX1_switchTo_16 : decode cX1_switchTo 16 = .ok (.goto 17, 3) := by decide +kernel
theorem dX1_switchTo_19 : decode cX1_switchTo 19 = .ok (.aload_n 0, 1) := by decide +kernel
theorem dX1_switchTo_20 : decode cX1_switchTo 20 = .ok (.dup, 1) := by decide +kernel
theorem dX1_switchTo_21 : decode cX1_switchTo 21 = .ok (.getfield 54, 3) := by decide +kernel
theorem dX1_switchTo_24 : decode cX1_switchTo 24 = .ok (.iconst 1, 1) := by decide +kernel
theorem dX1_switchTo_25 : decode cX1_switchTo 25 = .ok (.iload_n 1, 1) := by decide +kernel
theorem dX1_switchTo_26 : decode cX1_switchTo 26 = .ok (.ishl, 1) := by decide +kernel
theorem dX1_switchTo_27 : decode cX1_switchTo 27 = .ok (.iconst (-1), 1) := by decide +kernel
theorem dX1_switchTo_28 : decode cX1_switchTo 28 = .ok (.ixor, 1) := by decide +kernel
theorem dX1_switchTo_29 : decode cX1_switchTo 29 = .ok (.iand, 1) := by decide +kernel
theorem dX1_switchTo_30 : decode cX1_switchTo 30 = .ok (.putfield 54, 3) := by decide +kernel
theorem dX1_switchTo_33 : decode cX1_switchTo 33 = .ok (.return_, 1) := by decide +kernel
theorem dX1_changeLink_0 : decode cX1_changeLink 0 = .ok (.iload_n 3, 1) := by decide +kernel
theorem dX1_changeLink_1 : decode cX1_changeLink 1 = .ok (.ifCond .eq 30, 3) := by decide +kernel
theorem dX1_changeLink_4 : decode cX1_changeLink 4 = .ok (.aload_n 0, 1) := by decide +kernel
theorem dX1_changeLink_5 : decode cX1_changeLink 5 = .ok (.getfield 21, 3) := by decide +kernel
theorem dX1_changeLink_8 : decode cX1_changeLink 8 = .ok (.iload_n 1, 1) := by decide +kernel
theorem dX1_changeLink_9 : decode cX1_changeLink 9 = .ok (.dup2, 1) := by decide +kernel
theorem dX1_changeLink_10 : decode cX1_changeLink 10 = .ok (.iaload, 1) := by decide +kernel
theorem dX1_changeLink_11 : decode cX1_changeLink 11 = .ok (.iconst 1, 1) := by decide +kernel
theorem dX1_changeLink_12 : decode cX1_changeLink 12 = .ok (.iload_n 2, 1) := by decide +kernel
theorem dX1_changeLink_13 : decode cX1_changeLink 13 = .ok (.ishl, 1) := by decide +kernel
theorem dX1_changeLink_14 : decode cX1_changeLink 14 = .ok (.ior, 1) := by decide +kernel
theorem dX1_changeLink_15 : decode cX1_changeLink 15 = .ok (.iastore, 1) := by decide +kernel
theorem dX1_changeLink_16 : decode cX1_changeLink 16 = .ok (.aload_n 0, 1) := by decide +kernel
theorem dX1_changeLink_17 : decode cX1_changeLink 17 = .ok (.getfield 21, 3) := by decide +kernel
theorem dX1_changeLink_20 : decode cX1_changeLink 20 = .ok (.iload_n 2, 1) := by decide +kernel
theorem dX1_changeLink_21 : decode cX1_changeLink 21 = .ok (.dup2, 1) := by decide +kernel
theorem dX1_changeLink_22 : decode cX1_changeLink 22 = .ok (.iaload, 1) := by decide +kernel
theorem dX1_changeLink_23 : decode cX1_changeLink 23 = .ok (.iconst 1, 1) := by decide +kernel
theorem dX1_changeLink_24 : decode cX1_changeLink 24 = .ok (.iload_n 1, 1) := by decide +kernel
theorem dX1_changeLink_25 : decode cX1_changeLink 25 = .ok (.ishl, 1) := by decide +kernel
theorem dX1_changeLink_26 : decode cX1_changeLink 26 = .ok (.ior, 1) := by decide +kernel
theorem dX1_changeLink_27 : decode cX1_changeLink 27 = .ok (.iastore, 1) := by decide +kernel
theorem dX1_changeLink_28 : decode cX1_changeLink 28 = .ok (.goto 31, 3) := by decide +kernel
theorem dX1_changeLink_31 : decode cX1_changeLink 31 = .ok (.aload_n 0, 1) := by decide +kernel
theorem dX1_changeLink_32 : decode cX1_changeLink 32 = .ok (.getfield 21, 3) := by decide +kernel
theorem dX1_changeLink_35 : decode cX1_changeLink 35 = .ok (.iload_n 1, 1) := by decide +kernel
theorem dX1_changeLink_36 : decode cX1_changeLink 36 = .ok (.dup2, 1) := by decide +kernel
theorem dX1_changeLink_37 : decode cX1_changeLink 37 = .ok (.iaload, 1) := by decide +kernel
theorem dX1_changeLink_38 : decode cX1_changeLink 38 = .ok (.iconst 1, 1) := by decide +kernel
theorem dX1_changeLink_39 : decode cX1_changeLink 39 = .ok (.iload_n 2, 1) := by decide +kernel
theorem dX1_changeLink_40 : decode cX1_changeLink 40 = .ok (.ishl, 1) := by decide +kernel
theorem dX1_changeLink_41 : decode cX1_changeLink 41 = .ok (.iconst (-1), 1) := by decide +kernel
theorem dX1_changeLink_42 : decode cX1_changeLink 42 = .ok (.ixor, 1) := by decide +kernel
theorem dX1_changeLink_43 : decode cX1_changeLink 43 = .ok (.iand, 1) := by decide +kernel
theorem dX1_changeLink_44 : decode cX1_changeLink 44 = .ok (.iastore, 1) := by decide +kernel
theorem dX1_changeLink_45 : decode cX1_changeLink 45 = .ok (.aload_n 0, 1) := by decide +kernel
theorem dX1_changeLink_46 : decode cX1_changeLink 46 = .ok (.getfield 21, 3) := by decide +kernel
theorem dX1_changeLink_49 : decode cX1_changeLink 49 = .ok (.iload_n 2, 1) := by decide +kernel
theorem dX1_changeLink_50 : decode cX1_changeLink 50 = .ok (.dup2, 1) := by decide +kernel
theorem dX1_changeLink_51 : decode cX1_changeLink 51 = .ok (.iaload, 1) := by decide +kernel
theorem dX1_changeLink_52 : decode cX1_changeLink 52 = .ok (.iconst 1, 1) := by decide +kernel
theorem dX1_changeLink_53 : decode cX1_changeLink 53 = .ok (.iload_n 1, 1) := by decide +kernel
theorem dX1_changeLink_54 : decode cX1_changeLink 54 = .ok (.ishl, 1) := by decide +kernel
theorem dX1_changeLink_55 : decode cX1_changeLink 55 = .ok (.iconst (-1), 1) := by decide +kernel
theorem dX1_changeLink_56 : decode cX1_changeLink 56 = .ok (.ixor, 1) := by decide +kernel
theorem dX1_changeLink_57 : decode cX1_changeLink 57 = .ok (.iand, 1) := by decide +kernel
theorem dX1_changeLink_58 : decode cX1_changeLink 58 = .ok (.iastore, 1) := by decide +kernel
theorem dX1_changeLink_59 : decode cX1_changeLink 59 = .ok (.return_, 1) := by decide +kernel
theorem dX1_retune_0 : decode cX1_retune 0 = .ok (.aload_n 0, 1) := by decide +kernel
theorem dX1_retune_1 : decode cX1_retune 1 = .ok (.getfield 9, 3) := by decide +kernel
theorem dX1_retune_4 : decode cX1_retune 4 = .ok (.iload_n 1, 1) := by decide +kernel
theorem dX1_retune_5 : decode cX1_retune 5 = .ok (.iaload, 1) := by decide +kernel
theorem dX1_retune_6 : decode cX1_retune 6 = .ok (.istore 4, 2) := by decide +kernel
theorem dX1_retune_8 : decode cX1_retune 8 = .ok (.aload_n 0, 1) := by decide +kernel
theorem dX1_retune_9 : decode cX1_retune 9 = .ok (.getfield 9, 3) := by decide +kernel
theorem dX1_retune_12 : decode cX1_retune 12 = .ok (.iload_n 1, 1) := by decide +kernel
theorem dX1_retune_13 : decode cX1_retune 13 = .ok (.iload_n 2, 1) := by decide +kernel
theorem dX1_retune_14 : decode cX1_retune 14 = .ok (.bipush 100, 2) := by decide +kernel
theorem dX1_retune_16 : decode cX1_retune 16 = .ok (.imul, 1) := by decide +kernel
theorem dX1_retune_17 : decode cX1_retune 17 = .ok (.iastore, 1) := by decide +kernel
theorem dX1_retune_18 : decode cX1_retune 18 = .ok (.aload_n 0, 1) := by decide +kernel
theorem dX1_retune_19 : decode cX1_retune 19 = .ok (.getfield 15, 3) := by decide +kernel
theorem dX1_retune_22 : decode cX1_retune 22 = .ok (.iload_n 1, 1) := by decide +kernel
theorem dX1_retune_23 : decode cX1_retune 23 = .ok (.iload_n 3, 1) := by decide +kernel
theorem dX1_retune_24 : decode cX1_retune 24 = .ok (.iastore, 1) := by decide +kernel
theorem dX1_retune_25 : decode cX1_retune 25 = .ok (.iload 4, 2) := by decide +kernel
theorem dX1_retune_27 : decode cX1_retune 27 = .ok (.ireturn, 1) := by decide +kernel
theorem dX1_changeSetting_0 : decode cX1_changeSetting 0 = .ok (.aload_n 0, 1) := by decide +kernel
theorem dX1_changeSetting_1 : decode cX1_changeSetting 1 = .ok (.getfield 41, 3) := by decide +kernel
theorem dX1_changeSetting_4 : decode cX1_changeSetting 4 = .ok (.iload_n 1, 1) := by decide +kernel
theorem dX1_changeSetting_5 : decode cX1_changeSetting 5 = .ok (.iaload, 1) := by decide +kernel
theorem dX1_changeSetting_6 : decode cX1_changeSetting 6 = .ok (.istore_n 3, 1) := by decide +kernel
theorem dX1_changeSetting_7 : decode cX1_changeSetting 7 = .ok (.aload_n 0, 1) := by decide +kernel
theorem dX1_changeSetting_8 : decode cX1_changeSetting 8 = .ok (.getfield 41, 3) := by decide +kernel
theorem dX1_changeSetting_11 : decode cX1_changeSetting 11 = .ok (.iload_n 1, 1) := by decide +kernel
theorem dX1_changeSetting_12 : decode cX1_changeSetting 12 = .ok (.iload_n 2, 1) := by decide +kernel
theorem dX1_changeSetting_13 : decode cX1_changeSetting 13 = .ok (.iastore, 1) := by decide +kernel
theorem dX1_changeSetting_14 : decode cX1_changeSetting 14 = .ok (.aload_n 0, 1) := by decide +kernel
theorem dX1_changeSetting_15 : decode cX1_changeSetting 15 = .ok (.invokevirtual 89, 3) := by decide +kernel
theorem dX1_changeSetting_18 : decode cX1_changeSetting 18 = .ok (.iload_n 3, 1) := by decide +kernel
theorem dX1_changeSetting_19 : decode cX1_changeSetting 19 = .ok (.ireturn, 1) := by decide +kernel
theorem dX1_fitPhases_0 : decode cX1_fitPhases 0 = .ok (.iconst 0, 1) := by decide +kernel
theorem dX1_fitPhases_1 : decode cX1_fitPhases 1 = .ok (.istore_n 1, 1) := by decide +kernel
theorem dX1_fitPhases_2 : decode cX1_fitPhases 2 = .ok (.iload_n 1, 1) := by decide +kernel
theorem dX1_fitPhases_3 : decode cX1_fitPhases 3 = .ok (.bipush 16, 2) := by decide +kernel
theorem dX1_fitPhases_5 : decode cX1_fitPhases 5 = .ok (.if_icmp .ge 30, 3) := by decide +kernel
theorem dX1_fitPhases_8 : decode cX1_fitPhases 8 = .ok (.aload_n 0, 1) := by decide +kernel
theorem dX1_fitPhases_9 : decode cX1_fitPhases 9 = .ok (.getfield 9, 3) := by decide +kernel
theorem dX1_fitPhases_12 : decode cX1_fitPhases 12 = .ok (.iload_n 1, 1) := by decide +kernel
theorem dX1_fitPhases_13 : decode cX1_fitPhases 13 = .ok (.aload_n 0, 1) := by decide +kernel
theorem dX1_fitPhases_14 : decode cX1_fitPhases 14 = .ok (.getfield 9, 3) := by decide +kernel
theorem dX1_fitPhases_17 : decode cX1_fitPhases 17 = .ok (.iload_n 1, 1) := by decide +kernel
theorem dX1_fitPhases_18 : decode cX1_fitPhases 18 = .ok (.iaload, 1) := by decide +kernel
theorem dX1_fitPhases_19 : decode cX1_fitPhases 19 = .ok (.aload_n 0, 1) := by decide +kernel
theorem dX1_fitPhases_20 : decode cX1_fitPhases 20 = .ok (.invokevirtual 92, 3) := by decide +kernel
theorem dX1_fitPhases_23 : decode cX1_fitPhases 23 = .ok (.iconst 1, 1) := by decide +kernel
theorem dX1_fitPhases_24 : decode cX1_fitPhases 24 = .ok (.isub, 1) := by decide +kernel
theorem dX1_fitPhases_25 : decode cX1_fitPhases 25 = .ok (.invokestatic 96, 3) := by decide +kernel
theorem dX1_fitPhases_28 : decode cX1_fitPhases 28 = .ok (.iastore, 1) := by decide +kernel
theorem dX1_fitPhases_29 : decode cX1_fitPhases 29 = .ok (.iinc 1 1, 3) := by decide +kernel
theorem dX1_fitPhases_32 : decode cX1_fitPhases 32 = .ok (.goto (-30), 3) := by decide +kernel
theorem dX1_fitPhases_35 : decode cX1_fitPhases 35 = .ok (.return_, 1) := by decide +kernel
theorem dX1_fullPhase_0 : decode cX1_fullPhase 0 = .ok (.aload_n 0, 1) := by decide +kernel
theorem dX1_fullPhase_1 : decode cX1_fullPhase 1 = .ok (.getfield 41, 3) := by decide +kernel
theorem dX1_fullPhase_4 : decode cX1_fullPhase 4 = .ok (.iconst 0, 1) := by decide +kernel
theorem dX1_fullPhase_5 : decode cX1_fullPhase 5 = .ok (.iaload, 1) := by decide +kernel
theorem dX1_fullPhase_6 : decode cX1_fullPhase 6 = .ok (.bipush 100, 2) := by decide +kernel
theorem dX1_fullPhase_8 : decode cX1_fullPhase 8 = .ok (.imul, 1) := by decide +kernel
theorem dX1_fullPhase_9 : decode cX1_fullPhase 9 = .ok (.ireturn, 1) := by decide +kernel
theorem dX1_tickOften_0 : decode cX1_tickOften 0 = .ok (.iconst 0, 1) := by decide +kernel
theorem dX1_tickOften_1 : decode cX1_tickOften 1 = .ok (.istore_n 2, 1) := by decide +kernel
theorem dX1_tickOften_2 : decode cX1_tickOften 2 = .ok (.iload_n 2, 1) := by decide +kernel
theorem dX1_tickOften_3 : decode cX1_tickOften 3 = .ok (.iload_n 1, 1) := by decide +kernel
theorem dX1_tickOften_4 : decode cX1_tickOften 4 = .ok (.if_icmp .ge 14, 3) := by decide +kernel
theorem dX1_tickOften_7 : decode cX1_tickOften 7 = .ok (.aload_n 0, 1) := by decide +kernel
theorem dX1_tickOften_8 : decode cX1_tickOften 8 = .ok (.invokevirtual 102, 3) := by decide +kernel
theorem dX1_tickOften_11 : decode cX1_tickOften 11 = .ok (.pop, 1) := by decide +kernel
theorem dX1_tickOften_12 : decode cX1_tickOften 12 = .ok (.iinc 2 1, 3) := by decide +kernel
theorem dX1_tickOften_15 : decode cX1_tickOften 15 = .ok (.goto (-13), 3) := by decide +kernel
theorem dX1_tickOften_18 : decode cX1_tickOften 18 = .ok (.return_, 1) := by decide +kernel
theorem dX1_tickOnce_0 : decode cX1_tickOnce 0 = .ok (.iconst 0, 1) := by decide +kernel
theorem dX1_tickOnce_1 : decode cX1_tickOnce 1 = .ok (.istore_n 1, 1) := by decide +kernel
theorem dX1_tickOnce_2 : decode cX1_tickOnce 2 = .ok (.aload_n 0, 1) := by decide +kernel
theorem dX1_tickOnce_3 : decode cX1_tickOnce 3 = .ok (.invokevirtual 105, 3) := by decide +kernel
theorem dX1_tickOnce_6 : decode cX1_tickOnce 6 = .ok (.istore_n 2, 1) := by decide +kernel
theorem dX1_tickOnce_7 : decode cX1_tickOnce 7 = .ok (.iconst 0, 1) := by decide +kernel
theorem dX1_tickOnce_8 : decode cX1_tickOnce 8 = .ok (.istore_n 3, 1) := by decide +kernel
theorem dX1_tickOnce_9 : decode cX1_tickOnce 9 = .ok (.iload_n 3, 1) := by decide +kernel
theorem dX1_tickOnce_10 : decode cX1_tickOnce 10 = .ok (.bipush 16, 2) := by decide +kernel
theorem dX1_tickOnce_12 : decode cX1_tickOnce 12 = .ok (.if_icmp .ge 36, 3) := by decide +kernel
theorem dX1_tickOnce_15 : decode cX1_tickOnce 15 = .ok (.iload_n 2, 1) := by decide +kernel
theorem dX1_tickOnce_16 : decode cX1_tickOnce 16 = .ok (.ifCond .eq 32, 3) := by decide +kernel
theorem dX1_tickOnce_19 : decode cX1_tickOnce 19 = .ok (.iload_n 1, 1) := by decide +kernel
theorem dX1_tickOnce_20 : decode cX1_tickOnce 20 = .ok (.iload_n 2, 1) := by decide +kernel
theorem dX1_tickOnce_21 : decode cX1_tickOnce 21 = .ok (.ior, 1) := by decide +kernel
theorem dX1_tickOnce_22 : decode cX1_tickOnce 22 = .ok (.istore_n 1, 1) := by decide +kernel
theorem dX1_tickOnce_23 : decode cX1_tickOnce 23 = .ok (.aload_n 0, 1) := by decide +kernel
theorem dX1_tickOnce_24 : decode cX1_tickOnce 24 = .ok (.iload_n 2, 1) := by decide +kernel
theorem dX1_tickOnce_25 : decode cX1_tickOnce 25 = .ok (.invokevirtual 108, 3) := by decide +kernel
theorem dX1_tickOnce_28 : decode cX1_tickOnce 28 = .ok (.aload_n 0, 1) := by decide +kernel
theorem dX1_tickOnce_29 : decode cX1_tickOnce 29 = .ok (.iload_n 2, 1) := by decide +kernel
theorem dX1_tickOnce_30 : decode cX1_tickOnce 30 = .ok (.aload_n 0, 1) := by decide +kernel
theorem dX1_tickOnce_31 : decode cX1_tickOnce 31 = .ok (.getfield 54, 3) := by decide +kernel
theorem dX1_tickOnce_34 : decode cX1_tickOnce 34 = .ok (.iload_n 1, 1) := by decide +kernel
theorem dX1_tickOnce_35 : decode cX1_tickOnce 35 = .ok (.iconst (-1), 1) := by decide +kernel
theorem dX1_tickOnce_36 : decode cX1_tickOnce 36 = .ok (.ixor, 1) := by decide +kernel
theorem dX1_tickOnce_37 : decode cX1_tickOnce 37 = .ok (.iand, 1) := by decide +kernel
theorem dX1_tickOnce_38 : decode cX1_tickOnce 38 = .ok (.invokevirtual 112, 3) := by decide +kernel
theorem dX1_tickOnce_41 : decode cX1_tickOnce 41 = .ok (.istore_n 2, 1) := by decide +kernel
theorem dX1_tickOnce_42 : decode cX1_tickOnce 42 = .ok (.iinc 3 1, 3) := by decide +kernel
theorem dX1_tickOnce_45 : decode cX1_tickOnce 45 = .ok (.goto (-36), 3) := by decide +kernel
theorem dX1_tickOnce_48 : decode cX1_tickOnce 48 = .ok (.aload_n 0, 1) := by decide +kernel
theorem dX1_tickOnce_49 : decode cX1_tickOnce 49 = .ok (.dup, 1) := by decide +kernel
theorem dX1_tickOnce_50 : decode cX1_tickOnce 50 = .ok (.getfield 57, 3) := by decide +kernel
theorem dX1_tickOnce_53 : decode cX1_tickOnce 53 = .ok (.iconst 1, 1) := by decide +kernel
theorem dX1_tickOnce_54 : decode cX1_tickOnce 54 = .ok (.iadd, 1) := by decide +kernel
theorem dX1_tickOnce_55 : decode cX1_tickOnce 55 = .ok (.putfield 57, 3) := by decide +kernel
theorem dX1_tickOnce_58 : decode cX1_tickOnce 58 = .ok (.aload_n 0, 1) := by decide +kernel
theorem dX1_tickOnce_59 : decode cX1_tickOnce 59 = .ok (.iload_n 1, 1) := by decide +kernel
theorem dX1_tickOnce_60 : decode cX1_tickOnce 60 = .ok (.invokestatic 83, 3) := by decide +kernel
theorem dX1_tickOnce_63 : decode cX1_tickOnce 63 = .ok (.invokevirtual 115, 3) := by decide +kernel
theorem dX1_tickOnce_66 : decode cX1_tickOnce 66 = .ok (.iload_n 1, 1) := by decide +kernel
theorem dX1_tickOnce_67 : decode cX1_tickOnce 67 = .ok (.ireturn, 1) := by decide +kernel
theorem dX1_grow_0 : decode cX1_grow 0 = .ok (.aload_n 0, 1) := by decide +kernel
theorem dX1_grow_1 : decode cX1_grow 1 = .ok (.invokevirtual 92, 3) := by decide +kernel
theorem dX1_grow_4 : decode cX1_grow 4 = .ok (.istore_n 1, 1) := by decide +kernel
theorem dX1_grow_5 : decode cX1_grow 5 = .ok (.iconst 0, 1) := by decide +kernel
theorem dX1_grow_6 : decode cX1_grow 6 = .ok (.istore_n 2, 1) := by decide +kernel
theorem dX1_grow_7 : decode cX1_grow 7 = .ok (.iconst 0, 1) := by decide +kernel
theorem dX1_grow_8 : decode cX1_grow 8 = .ok (.istore_n 3, 1) := by decide +kernel
theorem dX1_grow_9 : decode cX1_grow 9 = .ok (.iload_n 3, 1) := by decide +kernel
theorem dX1_grow_10 : decode cX1_grow 10 = .ok (.bipush 16, 2) := by decide +kernel
theorem dX1_grow_12 : decode cX1_grow 12 = .ok (.if_icmp .ge 70, 3) := by decide +kernel
theorem dX1_grow_15 : decode cX1_grow 15 = .ok (.aload_n 0, 1) := by decide +kernel
theorem dX1_grow_16 : decode cX1_grow 16 = .ok (.getfield 54, 3) := by decide +kernel
theorem dX1_grow_19 : decode cX1_grow 19 = .ok (.iload_n 3, 1) := by decide +kernel
theorem dX1_grow_20 : decode cX1_grow 20 = .ok (.invokestatic 72, 3) := by decide +kernel
theorem dX1_grow_23 : decode cX1_grow 23 = .ok (.ifCond .eq 53, 3) := by decide +kernel
theorem dX1_grow_26 : decode cX1_grow 26 = .ok (.aload_n 0, 1) := by decide +kernel
theorem dX1_grow_27 : decode cX1_grow 27 = .ok (.getfield 9, 3) := by decide +kernel
theorem dX1_grow_30 : decode cX1_grow 30 = .ok (.iload_n 3, 1) := by decide +kernel
theorem dX1_grow_31 : decode cX1_grow 31 = .ok (.dup2, 1) := by decide +kernel
theorem dX1_grow_32 : decode cX1_grow 32 = .ok (.iaload, 1) := by decide +kernel
theorem dX1_grow_33 : decode cX1_grow 33 = .ok (.aload_n 0, 1) := by decide +kernel
theorem dX1_grow_34 : decode cX1_grow 34 = .ok (.getfield 15, 3) := by decide +kernel
theorem dX1_grow_37 : decode cX1_grow 37 = .ok (.iload_n 3, 1) := by decide +kernel
theorem dX1_grow_38 : decode cX1_grow 38 = .ok (.iaload, 1) := by decide +kernel
theorem dX1_grow_39 : decode cX1_grow 39 = .ok (.iadd, 1) := by decide +kernel
theorem dX1_grow_40 : decode cX1_grow 40 = .ok (.iastore, 1) := by decide +kernel
theorem dX1_grow_41 : decode cX1_grow 41 = .ok (.aload_n 0, 1) := by decide +kernel
theorem dX1_grow_42 : decode cX1_grow 42 = .ok (.getfield 18, 3) := by decide +kernel
theorem dX1_grow_45 : decode cX1_grow 45 = .ok (.iload_n 3, 1) := by decide +kernel
theorem dX1_grow_46 : decode cX1_grow 46 = .ok (.iaload, 1) := by decide +kernel
theorem dX1_grow_47 : decode cX1_grow 47 = .ok (.ifCond .le 13, 3) := by decide +kernel
theorem dX1_grow_50 : decode cX1_grow 50 = .ok (.aload_n 0, 1) := by decide +kernel
theorem dX1_grow_51 : decode cX1_grow 51 = .ok (.getfield 18, 3) := by decide +kernel
theorem dX1_grow_54 : decode cX1_grow 54 = .ok (.iload_n 3, 1) := by decide +kernel
theorem dX1_grow_55 : decode cX1_grow 55 = .ok (.dup2, 1) := by decide +kernel
theorem dX1_grow_56 : decode cX1_grow 56 = .ok (.iaload, 1) := by decide +kernel
theorem dX1_grow_57 : decode cX1_grow 57 = .ok (.iconst 1, 1) := by decide +kernel
theorem dX1_grow_58 : decode cX1_grow 58 = .ok (.isub, 1) := by decide +kernel
theorem dX1_grow_59 : decode cX1_grow 59 = .ok (.iastore, 1) := by decide +kernel
theorem dX1_grow_60 : decode cX1_grow 60 = .ok (.aload_n 0, 1) := by decide +kernel
theorem dX1_grow_61 : decode cX1_grow 61 = .ok (.getfield 9, 3) := by decide +kernel
theorem dX1_grow_64 : decode cX1_grow 64 = .ok (.iload_n 3, 1) := by decide +kernel
theorem dX1_grow_65 : decode cX1_grow 65 = .ok (.iaload, 1) := by decide +kernel
theorem dX1_grow_66 : decode cX1_grow 66 = .ok (.iload_n 1, 1) := by decide +kernel
theorem dX1_grow_67 : decode cX1_grow 67 = .ok (.if_icmp .lt 9, 3) := by decide +kernel
theorem dX1_grow_70 : decode cX1_grow 70 = .ok (.iload_n 2, 1) := by decide +kernel
theorem dX1_grow_71 : decode cX1_grow 71 = .ok (.iconst 1, 1) := by decide +kernel
theorem dX1_grow_72 : decode cX1_grow 72 = .ok (.iload_n 3, 1) := by decide +kernel
theorem dX1_grow_73 : decode cX1_grow 73 = .ok (.ishl, 1) := by decide +kernel
theorem dX1_grow_74 : decode cX1_grow 74 = .ok (.ior, 1) := by decide +kernel
theorem dX1_grow_75 : decode cX1_grow 75 = .ok (.istore_n 2, 1) := by decide +kernel
theorem dX1_grow_76 : decode cX1_grow 76 = .ok (.iinc 3 1, 3) := by decide +kernel
theorem dX1_grow_79 : decode cX1_grow 79 = .ok (.goto (-70), 3) := by decide +kernel
theorem dX1_grow_82 : decode cX1_grow 82 = .ok (.iload_n 2, 1) := by decide +kernel
theorem dX1_grow_83 : decode cX1_grow 83 = .ok (.ireturn, 1) := by decide +kernel
theorem dX1_blink_0 : decode cX1_blink 0 = .ok (.iconst 0, 1) := by decide +kernel
theorem dX1_blink_1 : decode cX1_blink 1 = .ok (.istore_n 2, 1) := by decide +kernel
theorem dX1_blink_2 : decode cX1_blink 2 = .ok (.iload_n 2, 1) := by decide +kernel
theorem dX1_blink_3 : decode cX1_blink 3 = .ok (.bipush 16, 2) := by decide +kernel
theorem dX1_blink_5 : decode cX1_blink 5 = .ok (.if_icmp .ge 58, 3) := by decide +kernel
theorem dX1_blink_8 : decode cX1_blink 8 = .ok (.iload_n 1, 1) := by decide +kernel
theorem dX1_blink_9 : decode cX1_blink 9 = .ok (.iload_n 2, 1) := by decide +kernel
theorem dX1_blink_10 : decode cX1_blink 10 = .ok (.invokestatic 72, 3) := by decide +kernel
theorem dX1_blink_13 : decode cX1_blink 13 = .ok (.ifCond .eq 44, 3) := by decide +kernel
theorem dX1_blink_16 : decode cX1_blink 16 = .ok (.aload_n 0, 1) := by decide +kernel
theorem dX1_blink_17 : decode cX1_blink 17 = .ok (.getfield 9, 3) := by decide +kernel
theorem dX1_blink_20 : decode cX1_blink 20 = .ok (.iload_n 2, 1) := by decide +kernel
theorem dX1_blink_21 : decode cX1_blink 21 = .ok (.iconst 0, 1) := by decide +kernel
theorem dX1_blink_22 : decode cX1_blink 22 = .ok (.iastore, 1) := by decide +kernel
theorem dX1_blink_23 : decode cX1_blink 23 = .ok (.aload_n 0, 1) := by decide +kernel
theorem dX1_blink_24 : decode cX1_blink 24 = .ok (.getfield 18, 3) := by decide +kernel
theorem dX1_blink_27 : decode cX1_blink 27 = .ok (.iload_n 2, 1) := by decide +kernel
theorem dX1_blink_28 : decode cX1_blink 28 = .ok (.aload_n 0, 1) := by decide +kernel
theorem dX1_blink_29 : decode cX1_blink 29 = .ok (.getfield 41, 3) := by decide +kernel
theorem dX1_blink_32 : decode cX1_blink 32 = .ok (.iconst 2, 1) := by decide +kernel
theorem dX1_blink_33 : decode cX1_blink 33 = .ok (.iaload, 1) := by decide +kernel
theorem dX1_blink_34 : decode cX1_blink 34 = .ok (.iastore, 1) := by decide +kernel
theorem dX1_blink_35 : decode cX1_blink 35 = .ok (.aload_n 0, 1) := by decide +kernel
theorem dX1_blink_36 : decode cX1_blink 36 = .ok (.getfield 24, 3) := by decide +kernel
theorem dX1_blink_39 : decode cX1_blink 39 = .ok (.iload_n 2, 1) := by decide +kernel
theorem dX1_blink_40 : decode cX1_blink 40 = .ok (.dup2, 1) := by decide +kernel
theorem dX1_blink_41 : decode cX1_blink 41 = .ok (.iaload, 1) := by decide +kernel
theorem dX1_blink_42 : decode cX1_blink 42 = .ok (.iconst 1, 1) := by decide +kernel
theorem dX1_blink_43 : decode cX1_blink 43 = .ok (.iadd, 1) := by decide +kernel
theorem dX1_blink_44 : decode cX1_blink 44 = .ok (.iastore, 1) := by decide +kernel
theorem dX1_blink_45 : decode cX1_blink 45 = .ok (.aload_n 0, 1) := by decide +kernel
theorem dX1_blink_46 : decode cX1_blink 46 = .ok (.getfield 27, 3) := by decide +kernel
theorem dX1_blink_49 : decode cX1_blink 49 = .ok (.iload_n 2, 1) := by decide +kernel
theorem dX1_blink_50 : decode cX1_blink 50 = .ok (.aload_n 0, 1) := by decide +kernel
theorem dX1_blink_51 : decode cX1_blink 51 = .ok (.getfield 57, 3) := by decide +kernel
theorem dX1_blink_54 : decode cX1_blink 54 = .ok (.iconst 1, 1) := by decide +kernel
theorem dX1_blink_55 : decode cX1_blink 55 = .ok (.iadd, 1) := by decide +kernel
theorem dX1_blink_56 : decode cX1_blink 56 = .ok (.iastore, 1) := by decide +kernel
theorem dX1_blink_57 : decode cX1_blink 57 = .ok (.iinc 2 1, 3) := by decide +kernel
theorem dX1_blink_60 : decode cX1_blink 60 = .ok (.goto (-58), 3) := by decide +kernel
theorem dX1_blink_63 : decode cX1_blink 63 = .ok (.return_, 1) := by decide +kernel
theorem dX1_pushFrom_0 : decode cX1_pushFrom 0 = .ok (.iconst 0, 1) := by decide +kernel
theorem dX1_pushFrom_1 : decode cX1_pushFrom 1 = .ok (.istore_n 3, 1) := by decide +kernel
theorem dX1_pushFrom_2 : decode cX1_pushFrom 2 = .ok (.iconst 0, 1) := by decide +kernel
theorem dX1_pushFrom_3 : decode cX1_pushFrom 3 = .ok (.istore 4, 2) := by decide +kernel
theorem dX1_pushFrom_5 : decode cX1_pushFrom 5 = .ok (.iload 4, 2) := by decide +kernel
theorem dX1_pushFrom_7 : decode cX1_pushFrom 7 = .ok (.bipush 16, 2) := by decide +kernel
theorem dX1_pushFrom_9 : decode cX1_pushFrom 9 = .ok (.if_icmp .ge 34, 3) := by decide +kernel
theorem dX1_pushFrom_12 : decode cX1_pushFrom 12 = .ok (.iload_n 1, 1) := by decide +kernel
theorem dX1_pushFrom_13 : decode cX1_pushFrom 13 = .ok (.iload 4, 2) := by decide +kernel
theorem dX1_pushFrom_15 : decode cX1_pushFrom 15 = .ok (.invokestatic 72, 3) := by decide +kernel
theorem dX1_pushFrom_18 : decode cX1_pushFrom 18 = .ok (.ifCond .eq 19, 3) := by decide +kernel
theorem dX1_pushFrom_21 : decode cX1_pushFrom 21 = .ok (.iload_n 3, 1) := by decide +kernel
theorem dX1_pushFrom_22 : decode cX1_pushFrom 22 = .ok (.aload_n 0, 1) := by decide +kernel
theorem dX1_pushFrom_23 : decode cX1_pushFrom 23 = .ok (.aload_n 0, 1) := by decide +kernel
theorem dX1_pushFrom_24 : decode cX1_pushFrom 24 = .ok (.getfield 21, 3) := by decide +kernel
theorem dX1_pushFrom_27 : decode cX1_pushFrom 27 = .ok (.iload 4, 2) := by decide +kernel
theorem dX1_pushFrom_29 : decode cX1_pushFrom 29 = .ok (.iaload, 1) := by decide +kernel
theorem dX1_pushFrom_30 : decode cX1_pushFrom 30 = .ok (.iload_n 2, 1) := by decide +kernel
theorem dX1_pushFrom_31 : decode cX1_pushFrom 31 = .ok (.iand, 1) := by decide +kernel
theorem dX1_pushFrom_32 : decode cX1_pushFrom 32 = .ok (.invokevirtual 118, 3) := by decide +kernel
theorem dX1_pushFrom_35 : decode cX1_pushFrom 35 = .ok (.ior, 1) := by decide +kernel
theorem dX1_pushFrom_36 : decode cX1_pushFrom 36 = .ok (.istore_n 3, 1) := by decide +kernel
theorem dX1_pushFrom_37 : decode cX1_pushFrom 37 = .ok (.iinc 4 1, 3) := by decide +kernel
theorem dX1_pushFrom_40 : decode cX1_pushFrom 40 = .ok (.goto (-35), 3) := by decide +kernel
theorem dX1_pushFrom_43 : decode cX1_pushFrom 43 = .ok (.iload_n 3, 1) := by decide +kernel
theorem dX1_pushFrom_44 : decode cX1_pushFrom 44 = .ok (.ireturn, 1) := by decide +kernel
theorem dX1_pushAll_0 : decode cX1_pushAll 0 = .ok (.aload_n 0, 1) := by decide +kernel
theorem dX1_pushAll_1 : decode cX1_pushAll 1 = .ok (.invokevirtual 92, 3) := by decide +kernel
theorem dX1_pushAll_4 : decode cX1_pushAll 4 = .ok (.istore_n 2, 1) := by decide +kernel
theorem dX1_pushAll_5 : decode cX1_pushAll 5 = .ok (.iconst 0, 1) := by decide +kernel
theorem dX1_pushAll_6 : decode cX1_pushAll 6 = .ok (.istore_n 3, 1) := by decide +kernel
theorem dX1_pushAll_7 : decode cX1_pushAll 7 = .ok (.iconst 0, 1) := by decide +kernel
theorem dX1_pushAll_8 : decode cX1_pushAll 8 = .ok (.istore 4, 2) := by decide +kernel
theorem dX1_pushAll_10 : decode cX1_pushAll 10 = .ok (.iload 4, 2) := by decide +kernel
theorem dX1_pushAll_12 : decode cX1_pushAll 12 = .ok (.bipush 16, 2) := by decide +kernel
theorem dX1_pushAll_14 : decode cX1_pushAll 14 = .ok (.if_icmp .ge 102, 3) := by decide +kernel
theorem dX1_pushAll_17 : decode cX1_pushAll 17 = .ok (.iload_n 1, 1) := by decide +kernel
theorem dX1_pushAll_18 : decode cX1_pushAll 18 = .ok (.iload 4, 2) := by decide +kernel
theorem dX1_pushAll_20 : decode cX1_pushAll 20 = .ok (.invokestatic 72, 3) := by decide +kernel
theorem dX1_pushAll_23 : decode cX1_pushAll 23 = .ok (.ifCond .eq 87, 3) := by decide +kernel
theorem dX1_pushAll_26 : decode cX1_pushAll 26 = .ok (.aload_n 0, 1) := by decide +kernel
theorem dX1_pushAll_27 : decode cX1_pushAll 27 = .ok (.getfield 18, 3) := by decide +kernel
theorem dX1_pushAll_30 : decode cX1_pushAll 30 = .ok (.iload 4, 2) := by decide +kernel
theorem dX1_pushAll_32 : decode cX1_pushAll 32 = .ok (.iaload, 1) := by decide +kernel
theorem dX1_pushAll_33 : decode cX1_pushAll 33 = .ok (.ifCond .ne 77, 3) := by decide +kernel
theorem dX1_pushAll_36 : decode cX1_pushAll 36 = .ok (.aload_n 0, 1) := by decide +kernel
theorem dX1_pushAll_37 : decode cX1_pushAll 37 = .ok (.getfield 9, 3) := by decide +kernel
theorem dX1_pushAll_40 : decode cX1_pushAll 40 = .ok (.iload 4, 2) := by decide +kernel
theorem dX1_pushAll_42 : decode cX1_pushAll 42 = .ok (.iaload, 1) := by decide +kernel
theorem dX1_pushAll_43 : decode cX1_pushAll 43 = .ok (.aload_n 0, 1) := by decide +kernel
theorem dX1_pushAll_44 : decode cX1_pushAll 44 = .ok (.getfield 9, 3) := by decide +kernel
theorem dX1_pushAll_47 : decode cX1_pushAll 47 = .ok (.iload 4, 2) := by decide +kernel
theorem dX1_pushAll_49 : decode cX1_pushAll 49 = .ok (.iaload, 1) := by decide +kernel
theorem dX1_pushAll_50 : decode cX1_pushAll 50 = .ok (.aload_n 0, 1) := by decide +kernel
theorem dX1_pushAll_51 : decode cX1_pushAll 51 = .ok (.getfield 41, 3) := by decide +kernel
theorem dX1_pushAll_54 : decode cX1_pushAll 54 = .ok (.iconst 1, 1) := by decide +kernel
theorem dX1_pushAll_55 : decode cX1_pushAll 55 = .ok (.iaload, 1) := by decide +kernel
theorem dX1_pushAll_56 : decode cX1_pushAll 56 = .ok (.imul, 1) := by decide +kernel
theorem dX1_pushAll_57 : decode cX1_pushAll 57 = .ok (.bipush 100, 2) := by decide +kernel
theorem dX1_pushAll_59 : decode cX1_pushAll 59 = .ok (.idiv, 1) := by decide +kernel
theorem dX1_pushAll_60 : decode cX1_pushAll 60 = .ok (.iadd, 1) := by decide +kernel
theorem dX1_pushAll_61 : decode cX1_pushAll 61 = .ok (.istore 5, 2) := by decide +kernel
theorem dX1_pushAll_63 : decode cX1_pushAll 63 = .ok (.aload_n 0, 1) := by decide +kernel
theorem dX1_pushAll_64 : decode cX1_pushAll 64 = .ok (.getfield 9, 3) := by decide +kernel
theorem dX1_pushAll_67 : decode cX1_pushAll 67 = .ok (.iload 4, 2) := by decide +kernel
theorem dX1_pushAll_69 : decode cX1_pushAll 69 = .ok (.iload 5, 2) := by decide +kernel
theorem dX1_pushAll_71 : decode cX1_pushAll 71 = .ok (.iload_n 2, 1) := by decide +kernel
theorem dX1_pushAll_72 : decode cX1_pushAll 72 = .ok (.invokestatic 96, 3) := by decide +kernel
theorem dX1_pushAll_75 : decode cX1_pushAll 75 = .ok (.iastore, 1) := by decide +kernel
theorem dX1_pushAll_76 : decode cX1_pushAll 76 = .ok (.aload_n 0, 1) := by decide +kernel
theorem dX1_pushAll_77 : decode cX1_pushAll 77 = .ok (.getfield 30, 3) := by decide +kernel
theorem dX1_pushAll_80 : decode cX1_pushAll 80 = .ok (.iload 4, 2) := by decide +kernel
theorem dX1_pushAll_82 : decode cX1_pushAll 82 = .ok (.dup2, 1) := by decide +kernel
theorem dX1_pushAll_83 : decode cX1_pushAll 83 = .ok (.iaload, 1) := by decide +kernel
theorem dX1_pushAll_84 : decode cX1_pushAll 84 = .ok (.iconst 1, 1) := by decide +kernel
theorem dX1_pushAll_85 : decode cX1_pushAll 85 = .ok (.iadd, 1) := by decide +kernel
theorem dX1_pushAll_86 : decode cX1_pushAll 86 = .ok (.iastore, 1) := by decide +kernel
theorem dX1_pushAll_87 : decode cX1_pushAll 87 = .ok (.aload_n 0, 1) := by decide +kernel
theorem dX1_pushAll_88 : decode cX1_pushAll 88 = .ok (.dup, 1) := by decide +kernel
theorem dX1_pushAll_89 : decode cX1_pushAll 89 = .ok (.getfield 63, 3) := by decide +kernel
theorem dX1_pushAll_92 : decode cX1_pushAll 92 = .ok (.iconst 1, 1) := by decide +kernel
theorem dX1_pushAll_93 : decode cX1_pushAll 93 = .ok (.iadd, 1) := by decide +kernel
theorem dX1_pushAll_94 : decode cX1_pushAll 94 = .ok (.putfield 63, 3) := by decide +kernel
theorem dX1_pushAll_97 : decode cX1_pushAll 97 = .ok (.iload 5, 2) := by decide +kernel
theorem dX1_pushAll_99 : decode cX1_pushAll 99 = .ok (.iload_n 2, 1) := by decide +kernel
theorem dX1_pushAll_100 : decode cX1_pushAll 100 = .ok (.if_icmp .lt 10, 3) := by decide +kernel
theorem dX1_pushAll_103 : decode cX1_pushAll 103 = .ok (.iload_n 3, 1) := by decide +kernel
theorem dX1_pushAll_104 : decode cX1_pushAll 104 = .ok (.iconst 1, 1) := by decide +kernel
theorem dX1_pushAll_105 : decode cX1_pushAll 105 = .ok (.iload 4, 2) := by decide +kernel
theorem dX1_pushAll_107 : decode cX1_pushAll 107 = .ok (.ishl, 1) := by decide +kernel
theorem dX1_pushAll_108 : decode cX1_pushAll 108 = .ok (.ior, 1) := by decide +kernel
theorem dX1_pushAll_109 : decode cX1_pushAll 109 = .ok (.istore_n 3, 1) := by decide +kernel
theorem dX1_pushAll_110 : decode cX1_pushAll 110 = .ok (.iinc 4 1, 3) := by decide +kernel
theorem dX1_pushAll_113 : decode cX1_pushAll 113 = .ok (.goto (-103), 3) := by decide +kernel
theorem dX1_pushAll_116 : decode cX1_pushAll 116 = .ok (.iload_n 3, 1) := by decide +kernel
theorem dX1_pushAll_117 : decode cX1_pushAll 117 = .ok (.ireturn, 1) := by decide +kernel
theorem dX1_account_0 : decode cX1_account 0 = .ok (.aload_n 0, 1) := by decide +kernel
theorem dX1_account_1 : decode cX1_account 1 = .ok (.dup, 1) := by decide +kernel
theorem dX1_account_2 : decode cX1_account 2 = .ok (.getfield 60, 3) := by decide +kernel
theorem dX1_account_5 : decode cX1_account 5 = .ok (.iload_n 1, 1) := by decide +kernel
theorem dX1_account_6 : decode cX1_account 6 = .ok (.iadd, 1) := by decide +kernel
theorem dX1_account_7 : decode cX1_account 7 = .ok (.putfield 60, 3) := by decide +kernel
theorem dX1_account_10 : decode cX1_account 10 = .ok (.iload_n 1, 1) := by decide +kernel
theorem dX1_account_11 : decode cX1_account 11 = .ok (.iconst 2, 1) := by decide +kernel
theorem dX1_account_12 : decode cX1_account 12 = .ok (.if_icmp .lt 25, 3) := by decide +kernel
theorem dX1_account_15 : decode cX1_account 15 = .ok (.aload_n 0, 1) := by decide +kernel
theorem dX1_account_16 : decode cX1_account 16 = .ok (.dup, 1) := by decide +kernel
theorem dX1_account_17 : decode cX1_account 17 = .ok (.getfield 66, 3) := by decide +kernel
theorem dX1_account_20 : decode cX1_account 20 = .ok (.iconst 1, 1) := by decide +kernel
theorem dX1_account_21 : decode cX1_account 21 = .ok (.iadd, 1) := by decide +kernel
theorem dX1_account_22 : decode cX1_account 22 = .ok (.putfield 66, 3) := by decide +kernel
theorem dX1_account_25 : decode cX1_account 25 = .ok (.aload_n 0, 1) := by decide +kernel
theorem dX1_account_26 : decode cX1_account 26 = .ok (.aload_n 0, 1) := by decide +kernel
theorem dX1_account_27 : decode cX1_account 27 = .ok (.getfield 69, 3) := by decide +kernel
theorem dX1_account_30 : decode cX1_account 30 = .ok (.iload_n 1, 1) := by decide +kernel
theorem dX1_account_31 : decode cX1_account 31 = .ok (.invokestatic 121, 3) := by decide +kernel
theorem dX1_account_34 : decode cX1_account 34 = .ok (.putfield 69, 3) := by decide +kernel
theorem dX1_account_37 : decode cX1_account 37 = .ok (.return_, 1) := by decide +kernel
theorem dX1_distance_0 : decode cX1_distance 0 = .ok (.aload_n 0, 1) := by decide +kernel
theorem dX1_distance_1 : decode cX1_distance 1 = .ok (.getfield 9, 3) := by decide +kernel
theorem dX1_distance_4 : decode cX1_distance 4 = .ok (.iload_n 1, 1) := by decide +kernel
theorem dX1_distance_5 : decode cX1_distance 5 = .ok (.iaload, 1) := by decide +kernel
theorem dX1_distance_6 : decode cX1_distance 6 = .ok (.aload_n 0, 1) := by decide +kernel
theorem dX1_distance_7 : decode cX1_distance 7 = .ok (.getfield 9, 3) := by decide +kernel
theorem dX1_distance_10 : decode cX1_distance 10 = .ok (.iload_n 2, 1) := by decide +kernel
theorem dX1_distance_11 : decode cX1_distance 11 = .ok (.iaload, 1) := by decide +kernel
theorem dX1_distance_12 : decode cX1_distance 12 = .ok (.isub, 1) := by decide +kernel
theorem dX1_distance_13 : decode cX1_distance 13 = .ok (.invokestatic 124, 3) := by decide +kernel
theorem dX1_distance_16 : decode cX1_distance 16 = .ok (.istore_n 3, 1) := by decide +kernel
theorem dX1_distance_17 : decode cX1_distance 17 = .ok (.iload_n 3, 1) := by decide +kernel
theorem dX1_distance_18 : decode cX1_distance 18 = .ok (.aload_n 0, 1) := by decide +kernel
theorem dX1_distance_19 : decode cX1_distance 19 = .ok (.invokevirtual 92, 3) := by decide +kernel
theorem dX1_distance_22 : decode cX1_distance 22 = .ok (.iload_n 3, 1) := by decide +kernel
theorem dX1_distance_23 : decode cX1_distance 23 = .ok (.isub, 1) := by decide +kernel
theorem dX1_distance_24 : decode cX1_distance 24 = .ok (.invokestatic 96, 3) := by decide +kernel
theorem dX1_distance_27 : decode cX1_distance 27 = .ok (.ireturn, 1) := by decide +kernel
theorem dX1_greatestDistance_0 : decode cX1_greatestDistance 0 = .ok (.iconst 0, 1) := by decide +kernel
theorem dX1_greatestDistance_1 : decode cX1_greatestDistance 1 = .ok (.istore_n 1, 1) := by decide +kernel
theorem dX1_greatestDistance_2 : decode cX1_greatestDistance 2 = .ok (.iconst 0, 1) := by decide +kernel
theorem dX1_greatestDistance_3 : decode cX1_greatestDistance 3 = .ok (.istore_n 2, 1) := by decide +kernel
theorem dX1_greatestDistance_4 : decode cX1_greatestDistance 4 = .ok (.iload_n 2, 1) := by decide +kernel
theorem dX1_greatestDistance_5 : decode cX1_greatestDistance 5 = .ok (.bipush 16, 2) := by decide +kernel
theorem dX1_greatestDistance_7 : decode cX1_greatestDistance 7 = .ok (.if_icmp .ge 52, 3) := by decide +kernel
theorem dX1_greatestDistance_10 : decode cX1_greatestDistance 10 = .ok (.iload_n 2, 1) := by decide +kernel
theorem dX1_greatestDistance_11 : decode cX1_greatestDistance 11 = .ok (.iconst 1, 1) := by decide +kernel
theorem dX1_greatestDistance_12 : decode cX1_greatestDistance 12 = .ok (.iadd, 1) := by decide +kernel
theorem dX1_greatestDistance_13 : decode cX1_greatestDistance 13 = .ok (.istore_n 3, 1) := by decide +kernel
theorem dX1_greatestDistance_14 : decode cX1_greatestDistance 14 = .ok (.iload_n 3, 1) := by decide +kernel
theorem dX1_greatestDistance_15 : decode cX1_greatestDistance 15 = .ok (.bipush 16, 2) := by decide +kernel
theorem dX1_greatestDistance_17 : decode cX1_greatestDistance 17 = .ok (.if_icmp .ge 36, 3) := by decide +kernel
theorem dX1_greatestDistance_20 : decode cX1_greatestDistance 20 = .ok (.aload_n 0, 1) := by decide +kernel
theorem dX1_greatestDistance_21 : decode cX1_greatestDistance 21 = .ok (.iload_n 2, 1) := by decide +kernel
theorem dX1_greatestDistance_22 : decode cX1_greatestDistance 22 = .ok (.invokevirtual 76, 3) := by decide +kernel
theorem dX1_greatestDistance_25 : decode cX1_greatestDistance 25 = .ok (.ifCond .eq 22, 3) := by decide +kernel
theorem dX1_greatestDistance_28 : decode cX1_greatestDistance 28 = .ok (.aload_n 0, 1) := by decide +kernel
theorem dX1_greatestDistance_29 : decode cX1_greatestDistance 29 = .ok (.iload_n 3, 1) := by decide +kernel
theorem dX1_greatestDistance_30 : decode cX1_greatestDistance 30 = .ok (.invokevirtual 76, 3) := by decide +kernel
theorem dX1_greatestDistance_33 : decode cX1_greatestDistance 33 = .ok (.ifCond .eq 14, 3) := by decide +kernel
theorem dX1_greatestDistance_36 : decode cX1_greatestDistance 36 = .ok (.iload_n 1, 1) := by decide +kernel
theorem dX1_greatestDistance_37 : decode cX1_greatestDistance 37 = .ok (.aload_n 0, 1) := by decide +kernel
theorem dX1_greatestDistance_38 : decode cX1_greatestDistance 38 = .ok (.iload_n 2, 1) := by decide +kernel
theorem dX1_greatestDistance_39 : decode cX1_greatestDistance 39 = .ok (.iload_n 3, 1) := by decide +kernel
theorem dX1_greatestDistance_40 : decode cX1_greatestDistance 40 = .ok (.invokevirtual 127, 3) := by decide +kernel
theorem dX1_greatestDistance_43 : decode cX1_greatestDistance 43 = .ok (.invokestatic 121, 3) := by decide +kernel
theorem dX1_greatestDistance_46 : decode cX1_greatestDistance 46 = .ok (.istore_n 1, 1) := by decide +kernel
theorem dX1_greatestDistance_47 : decode cX1_greatestDistance 47 = .ok (.iinc 3 1, 3) := by decide +kernel
theorem dX1_greatestDistance_50 : decode cX1_greatestDistance 50 = .ok (.goto (-36), 3) := by decide +kernel
theorem dX1_greatestDistance_53 : decode cX1_greatestDistance 53 = .ok (.iinc 2 1, 3) := by decide +kernel
theorem dX1_greatestDistance_56 : decode cX1_greatestDistance 56 = .ok (.goto (-52), 3) := by decide +kernel
theorem dX1_greatestDistance_59 : decode cX1_greatestDistance 59 = .ok (.iload_n 1, 1) := by decide +kernel
theorem dX1_greatestDistance_60 : decode cX1_greatestDistance 60 = .ok (.ireturn, 1) := by decide +kernel
theorem dX1_isTogether_0 : decode cX1_isTogether 0 = .ok (.iconst (-1), 1) := by decide +kernel
theorem dX1_isTogether_1 : decode cX1_isTogether 1 = .ok (.istore_n 1, 1) := by decide +kernel
theorem dX1_isTogether_2 : decode cX1_isTogether 2 = .ok (.iconst 0, 1) := by decide +kernel
theorem dX1_isTogether_3 : decode cX1_isTogether 3 = .ok (.istore_n 2, 1) := by decide +kernel
theorem dX1_isTogether_4 : decode cX1_isTogether 4 = .ok (.iload_n 2, 1) := by decide +kernel
theorem dX1_isTogether_5 : decode cX1_isTogether 5 = .ok (.bipush 16, 2) := by decide +kernel
theorem dX1_isTogether_7 : decode cX1_isTogether 7 = .ok (.if_icmp .ge 47, 3) := by decide +kernel
theorem dX1_isTogether_10 : decode cX1_isTogether 10 = .ok (.aload_n 0, 1) := by decide +kernel
theorem dX1_isTogether_11 : decode cX1_isTogether 11 = .ok (.getfield 54, 3) := by decide +kernel
theorem dX1_isTogether_14 : decode cX1_isTogether 14 = .ok (.iload_n 2, 1) := by decide +kernel
theorem dX1_isTogether_15 : decode cX1_isTogether 15 = .ok (.invokestatic 72, 3) := by decide +kernel
theorem dX1_isTogether_18 : decode cX1_isTogether 18 = .ok (.ifCond .eq 30, 3) := by decide +kernel
theorem dX1_isTogether_21 : decode cX1_isTogether 21 = .ok (.iload_n 1, 1) := by decide +kernel
theorem dX1_isTogether_22 : decode cX1_isTogether 22 = .ok (.iconst (-1), 1) := by decide +kernel
theorem dX1_isTogether_23 : decode cX1_isTogether 23 = .ok (.if_icmp .ne 8, 3) := by decide +kernel
theorem dX1_isTogether_26 : decode cX1_isTogether 26 = .ok (.iload_n 2, 1) := by decide +kernel
theorem dX1_isTogether_27 : decode cX1_isTogether 27 = .ok (.istore_n 1, 1) := by decide +kernel
theorem dX1_isTogether_28 : decode cX1_isTogether 28 = .ok (.goto 20, 3) := by decide +kernel
theorem dX1_isTogether_31 : decode cX1_isTogether 31 = .ok (.aload_n 0, 1) := by decide +kernel
theorem dX1_isTogether_32 : decode cX1_isTogether 32 = .ok (.getfield 9, 3) := by decide +kernel
theorem dX1_isTogether_35 : decode cX1_isTogether 35 = .ok (.iload_n 2, 1) := by decide +kernel
theorem dX1_isTogether_36 : decode cX1_isTogether 36 = .ok (.iaload, 1) := by decide +kernel
theorem dX1_isTogether_37 : decode cX1_isTogether 37 = .ok (.aload_n 0, 1) := by decide +kernel
theorem dX1_isTogether_38 : decode cX1_isTogether 38 = .ok (.getfield 9, 3) := by decide +kernel
theorem dX1_isTogether_41 : decode cX1_isTogether 41 = .ok (.iload_n 1, 1) := by decide +kernel
theorem dX1_isTogether_42 : decode cX1_isTogether 42 = .ok (.iaload, 1) := by decide +kernel
theorem dX1_isTogether_43 : decode cX1_isTogether 43 = .ok (.if_icmp .eq 5, 3) := by decide +kernel
theorem dX1_isTogether_46 : decode cX1_isTogether 46 = .ok (.iconst 0, 1) := by decide +kernel
theorem dX1_isTogether_47 : decode cX1_isTogether 47 = .ok (.ireturn, 1) := by decide +kernel
theorem dX1_isTogether_48 : decode cX1_isTogether 48 = .ok (.iinc 2 1, 3) := by decide +kernel
theorem dX1_isTogether_51 : decode cX1_isTogether 51 = .ok (.goto (-47), 3) := by decide +kernel
theorem dX1_isTogether_54 : decode cX1_isTogether 54 = .ok (.aload_n 0, 1) := by decide +kernel
theorem dX1_isTogether_55 : decode cX1_isTogether 55 = .ok (.getfield 54, 3) := by decide +kernel
theorem dX1_isTogether_58 : decode cX1_isTogether 58 = .ok (.ifCond .eq 7, 3) := by decide +kernel
theorem dX1_isTogether_61 : decode cX1_isTogether 61 = .ok (.iconst 1, 1) := by decide +kernel
theorem dX1_isTogether_62 : decode cX1_isTogether 62 = .ok (.goto 4, 3) := by decide +kernel
theorem dX1_isTogether_65 : decode cX1_isTogether 65 = .ok (.iconst 0, 1) := by decide +kernel
theorem dX1_isTogether_66 : decode cX1_isTogether 66 = .ok (.ireturn, 1) := by decide +kernel
theorem dX1_hasUnlikeRates_0 : decode cX1_hasUnlikeRates 0 = .ok (.iconst (-1), 1) := by decide +kernel
theorem dX1_hasUnlikeRates_1 : decode cX1_hasUnlikeRates 1 = .ok (.istore_n 1, 1) := by decide +kernel
theorem dX1_hasUnlikeRates_2 : decode cX1_hasUnlikeRates 2 = .ok (.iconst 0, 1) := by decide +kernel
theorem dX1_hasUnlikeRates_3 : decode cX1_hasUnlikeRates 3 = .ok (.istore_n 2, 1) := by decide +kernel
theorem dX1_hasUnlikeRates_4 : decode cX1_hasUnlikeRates 4 = .ok (.iload_n 2, 1) := by decide +kernel
theorem dX1_hasUnlikeRates_5 : decode cX1_hasUnlikeRates 5 = .ok (.bipush 16, 2) := by decide +kernel
theorem dX1_hasUnlikeRates_7 : decode cX1_hasUnlikeRates 7 = .ok (.if_icmp .ge 47, 3) := by decide +kernel
theorem dX1_hasUnlikeRates_10 : decode cX1_hasUnlikeRates 10 = .ok (.aload_n 0, 1) := by decide +kernel
theorem dX1_hasUnlikeRates_11 : decode cX1_hasUnlikeRates 11 = .ok (.getfield 54, 3) := by decide +kernel
theorem dX1_hasUnlikeRates_14 : decode cX1_hasUnlikeRates 14 = .ok (.iload_n 2, 1) := by decide +kernel
theorem dX1_hasUnlikeRates_15 : decode cX1_hasUnlikeRates 15 = .ok (.invokestatic 72, 3) := by decide +kernel
theorem dX1_hasUnlikeRates_18 : decode cX1_hasUnlikeRates 18 = .ok (.ifCond .eq 30, 3) := by decide +kernel
theorem dX1_hasUnlikeRates_21 : decode cX1_hasUnlikeRates 21 = .ok (.iload_n 1, 1) := by decide +kernel
theorem dX1_hasUnlikeRates_22 : decode cX1_hasUnlikeRates 22 = .ok (.iconst (-1), 1) := by decide +kernel
theorem dX1_hasUnlikeRates_23 : decode cX1_hasUnlikeRates 23 = .ok (.if_icmp .ne 8, 3) := by decide +kernel
theorem dX1_hasUnlikeRates_26 : decode cX1_hasUnlikeRates 26 = .ok (.iload_n 2, 1) := by decide +kernel
theorem dX1_hasUnlikeRates_27 : decode cX1_hasUnlikeRates 27 = .ok (.istore_n 1, 1) := by decide +kernel
theorem dX1_hasUnlikeRates_28 : decode cX1_hasUnlikeRates 28 = .ok (.goto 20, 3) := by decide +kernel
theorem dX1_hasUnlikeRates_31 : decode cX1_hasUnlikeRates 31 = .ok (.aload_n 0, 1) := by decide +kernel
theorem dX1_hasUnlikeRates_32 : decode cX1_hasUnlikeRates 32 = .ok (.getfield 15, 3) := by decide +kernel
theorem dX1_hasUnlikeRates_35 : decode cX1_hasUnlikeRates 35 = .ok (.iload_n 2, 1) := by decide +kernel
theorem dX1_hasUnlikeRates_36 : decode cX1_hasUnlikeRates 36 = .ok (.iaload, 1) := by decide +kernel
theorem dX1_hasUnlikeRates_37 : decode cX1_hasUnlikeRates 37 = .ok (.aload_n 0, 1) := by decide +kernel
theorem dX1_hasUnlikeRates_38 : decode cX1_hasUnlikeRates 38 = .ok (.getfield 15, 3) := by decide +kernel
theorem dX1_hasUnlikeRates_41 : decode cX1_hasUnlikeRates 41 = .ok (.iload_n 1, 1) := by decide +kernel
theorem dX1_hasUnlikeRates_42 : decode cX1_hasUnlikeRates 42 = .ok (.iaload, 1) := by decide +kernel
theorem dX1_hasUnlikeRates_43 : decode cX1_hasUnlikeRates 43 = .ok (.if_icmp .eq 5, 3) := by decide +kernel
theorem dX1_hasUnlikeRates_46 : decode cX1_hasUnlikeRates 46 = .ok (.iconst 1, 1) := by decide +kernel
theorem dX1_hasUnlikeRates_47 : decode cX1_hasUnlikeRates 47 = .ok (.ireturn, 1) := by decide +kernel
theorem dX1_hasUnlikeRates_48 : decode cX1_hasUnlikeRates 48 = .ok (.iinc 2 1, 3) := by decide +kernel
theorem dX1_hasUnlikeRates_51 : decode cX1_hasUnlikeRates 51 = .ok (.goto (-47), 3) := by decide +kernel
theorem dX1_hasUnlikeRates_54 : decode cX1_hasUnlikeRates 54 = .ok (.iconst 0, 1) := by decide +kernel
theorem dX1_hasUnlikeRates_55 : decode cX1_hasUnlikeRates 55 = .ok (.ireturn, 1) := by decide +kernel
theorem dX1_pieceOf_0 : decode cX1_pieceOf 0 = .ok (.aload_n 0, 1) := by decide +kernel
theorem dX1_pieceOf_1 : decode cX1_pieceOf 1 = .ok (.getfield 54, 3) := by decide +kernel
theorem dX1_pieceOf_4 : decode cX1_pieceOf 4 = .ok (.iconst 1, 1) := by decide +kernel
theorem dX1_pieceOf_5 : decode cX1_pieceOf 5 = .ok (.iload_n 1, 1) := by decide +kernel
theorem dX1_pieceOf_6 : decode cX1_pieceOf 6 = .ok (.ishl, 1) := by decide +kernel
theorem dX1_pieceOf_7 : decode cX1_pieceOf 7 = .ok (.iand, 1) := by decide +kernel
theorem dX1_pieceOf_8 : decode cX1_pieceOf 8 = .ok (.istore_n 2, 1) := by decide +kernel
theorem dX1_pieceOf_9 : decode cX1_pieceOf 9 = .ok (.iconst 0, 1) := by decide +kernel
theorem dX1_pieceOf_10 : decode cX1_pieceOf 10 = .ok (.istore_n 3, 1) := by decide +kernel
theorem dX1_pieceOf_11 : decode cX1_pieceOf 11 = .ok (.iload_n 3, 1) := by decide +kernel
theorem dX1_pieceOf_12 : decode cX1_pieceOf 12 = .ok (.bipush 16, 2) := by decide +kernel
theorem dX1_pieceOf_14 : decode cX1_pieceOf 14 = .ok (.if_icmp .ge 29, 3) := by decide +kernel
theorem dX1_pieceOf_17 : decode cX1_pieceOf 17 = .ok (.iload_n 2, 1) := by decide +kernel
theorem dX1_pieceOf_18 : decode cX1_pieceOf 18 = .ok (.aload_n 0, 1) := by decide +kernel
theorem dX1_pieceOf_19 : decode cX1_pieceOf 19 = .ok (.iload_n 2, 1) := by decide +kernel
theorem dX1_pieceOf_20 : decode cX1_pieceOf 20 = .ok (.invokevirtual 130, 3) := by decide +kernel
theorem dX1_pieceOf_23 : decode cX1_pieceOf 23 = .ok (.ior, 1) := by decide +kernel
theorem dX1_pieceOf_24 : decode cX1_pieceOf 24 = .ok (.istore 4, 2) := by decide +kernel
theorem dX1_pieceOf_26 : decode cX1_pieceOf 26 = .ok (.iload 4, 2) := by decide +kernel
theorem dX1_pieceOf_28 : decode cX1_pieceOf 28 = .ok (.iload_n 2, 1) := by decide +kernel
theorem dX1_pieceOf_29 : decode cX1_pieceOf 29 = .ok (.if_icmp .ne 5, 3) := by decide +kernel
theorem dX1_pieceOf_32 : decode cX1_pieceOf 32 = .ok (.iload_n 2, 1) := by decide +kernel
theorem dX1_pieceOf_33 : decode cX1_pieceOf 33 = .ok (.ireturn, 1) := by decide +kernel
theorem dX1_pieceOf_34 : decode cX1_pieceOf 34 = .ok (.iload 4, 2) := by decide +kernel
theorem dX1_pieceOf_36 : decode cX1_pieceOf 36 = .ok (.istore_n 2, 1) := by decide +kernel
theorem dX1_pieceOf_37 : decode cX1_pieceOf 37 = .ok (.iinc 3 1, 3) := by decide +kernel
theorem dX1_pieceOf_40 : decode cX1_pieceOf 40 = .ok (.goto (-29), 3) := by decide +kernel
theorem dX1_pieceOf_43 : decode cX1_pieceOf 43 = .ok (.iload_n 2, 1) := by decide +kernel
theorem dX1_pieceOf_44 : decode cX1_pieceOf 44 = .ok (.ireturn, 1) := by decide +kernel
theorem dX1_neighbours_0 : decode cX1_neighbours 0 = .ok (.iconst 0, 1) := by decide +kernel
theorem dX1_neighbours_1 : decode cX1_neighbours 1 = .ok (.istore_n 2, 1) := by decide +kernel
theorem dX1_neighbours_2 : decode cX1_neighbours 2 = .ok (.iconst 0, 1) := by decide +kernel
theorem dX1_neighbours_3 : decode cX1_neighbours 3 = .ok (.istore_n 3, 1) := by decide +kernel
theorem dX1_neighbours_4 : decode cX1_neighbours 4 = .ok (.iload_n 3, 1) := by decide +kernel
theorem dX1_neighbours_5 : decode cX1_neighbours 5 = .ok (.bipush 16, 2) := by decide +kernel
theorem dX1_neighbours_7 : decode cX1_neighbours 7 = .ok (.if_icmp .ge 31, 3) := by decide +kernel
theorem dX1_neighbours_10 : decode cX1_neighbours 10 = .ok (.iload_n 1, 1) := by decide +kernel
theorem dX1_neighbours_11 : decode cX1_neighbours 11 = .ok (.iload_n 3, 1) := by decide +kernel
theorem dX1_neighbours_12 : decode cX1_neighbours 12 = .ok (.invokestatic 72, 3) := by decide +kernel
theorem dX1_neighbours_15 : decode cX1_neighbours 15 = .ok (.ifCond .eq 17, 3) := by decide +kernel
theorem dX1_neighbours_18 : decode cX1_neighbours 18 = .ok (.iload_n 2, 1) := by decide +kernel
theorem dX1_neighbours_19 : decode cX1_neighbours 19 = .ok (.aload_n 0, 1) := by decide +kernel
theorem dX1_neighbours_20 : decode cX1_neighbours 20 = .ok (.getfield 21, 3) := by decide +kernel
theorem dX1_neighbours_23 : decode cX1_neighbours 23 = .ok (.iload_n 3, 1) := by decide +kernel
theorem dX1_neighbours_24 : decode cX1_neighbours 24 = .ok (.iaload, 1) := by decide +kernel
theorem dX1_neighbours_25 : decode cX1_neighbours 25 = .ok (.aload_n 0, 1) := by decide +kernel
theorem dX1_neighbours_26 : decode cX1_neighbours 26 = .ok (.getfield 54, 3) := by decide +kernel
theorem dX1_neighbours_29 : decode cX1_neighbours 29 = .ok (.iand, 1) := by decide +kernel
theorem dX1_neighbours_30 : decode cX1_neighbours 30 = .ok (.ior, 1) := by decide +kernel
theorem dX1_neighbours_31 : decode cX1_neighbours 31 = .ok (.istore_n 2, 1) := by decide +kernel
theorem dX1_neighbours_32 : decode cX1_neighbours 32 = .ok (.iinc 3 1, 3) := by decide +kernel
theorem dX1_neighbours_35 : decode cX1_neighbours 35 = .ok (.goto (-31), 3) := by decide +kernel
theorem dX1_neighbours_38 : decode cX1_neighbours 38 = .ok (.iload_n 2, 1) := by decide +kernel
theorem dX1_neighbours_39 : decode cX1_neighbours 39 = .ok (.ireturn, 1) := by decide +kernel
theorem dX1_pieces_0 : decode cX1_pieces 0 = .ok (.iconst 0, 1) := by decide +kernel
theorem dX1_pieces_1 : decode cX1_pieces 1 = .ok (.istore_n 1, 1) := by decide +kernel
theorem dX1_pieces_2 : decode cX1_pieces 2 = .ok (.iconst 0, 1) := by decide +kernel
theorem dX1_pieces_3 : decode cX1_pieces 3 = .ok (.istore_n 2, 1) := by decide +kernel
theorem dX1_pieces_4 : decode cX1_pieces 4 = .ok (.iconst 0, 1) := by decide +kernel
theorem dX1_pieces_5 : decode cX1_pieces 5 = .ok (.istore_n 3, 1) := by decide +kernel
theorem dX1_pieces_6 : decode cX1_pieces 6 = .ok (.iload_n 3, 1) := by decide +kernel
theorem dX1_pieces_7 : decode cX1_pieces 7 = .ok (.bipush 16, 2) := by decide +kernel
theorem dX1_pieces_9 : decode cX1_pieces 9 = .ok (.if_icmp .ge 35, 3) := by decide +kernel
theorem dX1_pieces_12 : decode cX1_pieces 12 = .ok (.aload_n 0, 1) := by decide +kernel
theorem dX1_pieces_13 : decode cX1_pieces 13 = .ok (.getfield 54, 3) := by decide +kernel
theorem dX1_pieces_16 : decode cX1_pieces 16 = .ok (.iload_n 2, 1) := by decide +kernel
theorem dX1_pieces_17 : decode cX1_pieces 17 = .ok (.iconst (-1), 1) := by decide +kernel
theorem dX1_pieces_18 : decode cX1_pieces 18 = .ok (.ixor, 1) := by decide +kernel
theorem dX1_pieces_19 : decode cX1_pieces 19 = .ok (.iand, 1) := by decide +kernel
theorem dX1_pieces_20 : decode cX1_pieces 20 = .ok (.iload_n 3, 1) := by decide +kernel
theorem dX1_pieces_21 : decode cX1_pieces 21 = .ok (.invokestatic 72, 3) := by decide +kernel
theorem dX1_pieces_24 : decode cX1_pieces 24 = .ok (.ifCond .eq 14, 3) := by decide +kernel
theorem dX1_pieces_27 : decode cX1_pieces 27 = .ok (.iload_n 2, 1) := by decide +kernel
theorem dX1_pieces_28 : decode cX1_pieces 28 = .ok (.aload_n 0, 1) := by decide +kernel
theorem dX1_pieces_29 : decode cX1_pieces 29 = .ok (.iload_n 3, 1) := by decide +kernel
theorem dX1_pieces_30 : decode cX1_pieces 30 = .ok (.invokevirtual 133, 3) := by decide +kernel
theorem dX1_pieces_33 : decode cX1_pieces 33 = .ok (.ior, 1) := by decide +kernel
theorem dX1_pieces_34 : decode cX1_pieces 34 = .ok (.istore_n 2, 1) := by decide +kernel
theorem dX1_pieces_35 : decode cX1_pieces 35 = .ok (.iinc 1 1, 3) := by decide +kernel
theorem dX1_pieces_38 : decode cX1_pieces 38 = .ok (.iinc 3 1, 3) := by decide +kernel
theorem dX1_pieces_41 : decode cX1_pieces 41 = .ok (.goto (-35), 3) := by decide +kernel
theorem dX1_pieces_44 : decode cX1_pieces 44 = .ok (.iload_n 1, 1) := by decide +kernel
theorem dX1_pieces_45 : decode cX1_pieces 45 = .ok (.ireturn, 1) := by decide +kernel
theorem dX1_agreeing_0 : decode cX1_agreeing 0 = .ok (.aload_n 0, 1) := by decide +kernel
theorem dX1_agreeing_1 : decode cX1_agreeing 1 = .ok (.iload_n 1, 1) := by decide +kernel
theorem dX1_agreeing_2 : decode cX1_agreeing 2 = .ok (.invokevirtual 76, 3) := by decide +kernel
theorem dX1_agreeing_5 : decode cX1_agreeing 5 = .ok (.ifCond .ne 5, 3) := by decide +kernel
theorem dX1_agreeing_8 : decode cX1_agreeing 8 = .ok (.iconst 0, 1) := by decide +kernel
theorem dX1_agreeing_9 : decode cX1_agreeing 9 = .ok (.ireturn, 1) := by decide +kernel
theorem dX1_agreeing_10 : decode cX1_agreeing 10 = .ok (.iconst 0, 1) := by decide +kernel
theorem dX1_agreeing_11 : decode cX1_agreeing 11 = .ok (.istore_n 2, 1) := by decide +kernel
theorem dX1_agreeing_12 : decode cX1_agreeing 12 = .ok (.iconst 0, 1) := by decide +kernel
theorem dX1_agreeing_13 : decode cX1_agreeing 13 = .ok (.istore_n 3, 1) := by decide +kernel
theorem dX1_agreeing_14 : decode cX1_agreeing 14 = .ok (.iload_n 3, 1) := by decide +kernel
theorem dX1_agreeing_15 : decode cX1_agreeing 15 = .ok (.bipush 16, 2) := by decide +kernel
theorem dX1_agreeing_17 : decode cX1_agreeing 17 = .ok (.if_icmp .ge 38, 3) := by decide +kernel
theorem dX1_agreeing_20 : decode cX1_agreeing 20 = .ok (.aload_n 0, 1) := by decide +kernel
theorem dX1_agreeing_21 : decode cX1_agreeing 21 = .ok (.iload_n 3, 1) := by decide +kernel
theorem dX1_agreeing_22 : decode cX1_agreeing 22 = .ok (.invokevirtual 76, 3) := by decide +kernel
theorem dX1_agreeing_25 : decode cX1_agreeing 25 = .ok (.ifCond .eq 24, 3) := by decide +kernel
theorem dX1_agreeing_28 : decode cX1_agreeing 28 = .ok (.aload_n 0, 1) := by decide +kernel
theorem dX1_agreeing_29 : decode cX1_agreeing 29 = .ok (.getfield 9, 3) := by decide +kernel
theorem dX1_agreeing_32 : decode cX1_agreeing 32 = .ok (.iload_n 3, 1) := by decide +kernel
theorem dX1_agreeing_33 : decode cX1_agreeing 33 = .ok (.iaload, 1) := by decide +kernel
theorem dX1_agreeing_34 : decode cX1_agreeing 34 = .ok (.aload_n 0, 1) := by decide +kernel
theorem dX1_agreeing_35 : decode cX1_agreeing 35 = .ok (.getfield 9, 3) := by decide +kernel
theorem dX1_agreeing_38 : decode cX1_agreeing 38 = .ok (.iload_n 1, 1) := by decide +kernel
theorem dX1_agreeing_39 : decode cX1_agreeing 39 = .ok (.iaload, 1) := by decide +kernel
theorem dX1_agreeing_40 : decode cX1_agreeing 40 = .ok (.if_icmp .ne 9, 3) := by decide +kernel
theorem dX1_agreeing_43 : decode cX1_agreeing 43 = .ok (.iload_n 2, 1) := by decide +kernel
theorem dX1_agreeing_44 : decode cX1_agreeing 44 = .ok (.iconst 1, 1) := by decide +kernel
theorem dX1_agreeing_45 : decode cX1_agreeing 45 = .ok (.iload_n 3, 1) := by decide +kernel
theorem dX1_agreeing_46 : decode cX1_agreeing 46 = .ok (.ishl, 1) := by decide +kernel
theorem dX1_agreeing_47 : decode cX1_agreeing 47 = .ok (.ior, 1) := by decide +kernel
theorem dX1_agreeing_48 : decode cX1_agreeing 48 = .ok (.istore_n 2, 1) := by decide +kernel
theorem dX1_agreeing_49 : decode cX1_agreeing 49 = .ok (.iinc 3 1, 3) := by decide +kernel
theorem dX1_agreeing_52 : decode cX1_agreeing 52 = .ok (.goto (-38), 3) := by decide +kernel
theorem dX1_agreeing_55 : decode cX1_agreeing 55 = .ok (.iload_n 2, 1) := by decide +kernel
theorem dX1_agreeing_56 : decode cX1_agreeing 56 = .ok (.ireturn, 1) := by decide +kernel
theorem dX1_lampWithMostLinks_0 : decode cX1_lampWithMostLinks 0 = .ok (.iconst (-1), 1) := by decide +kernel
theorem dX1_lampWithMostLinks_1 : decode cX1_lampWithMostLinks 1 = .ok (.istore_n 1, 1) := by decide +kernel
theorem dX1_lampWithMostLinks_2 : decode cX1_lampWithMostLinks 2 = .ok (.iconst (-1), 1) := by decide +kernel
theorem dX1_lampWithMostLinks_3 : decode cX1_lampWithMostLinks 3 = .ok (.istore_n 2, 1) := by decide +kernel
theorem dX1_lampWithMostLinks_4 : decode cX1_lampWithMostLinks 4 = .ok (.iconst 0, 1) := by decide +kernel
theorem dX1_lampWithMostLinks_5 : decode cX1_lampWithMostLinks 5 = .ok (.istore_n 3, 1) := by decide +kernel
theorem dX1_lampWithMostLinks_6 : decode cX1_lampWithMostLinks 6 = .ok (.iload_n 3, 1) := by decide +kernel
theorem dX1_lampWithMostLinks_7 : decode cX1_lampWithMostLinks 7 = .ok (.bipush 16, 2) := by decide +kernel
theorem dX1_lampWithMostLinks_9 : decode cX1_lampWithMostLinks 9 = .ok (.if_icmp .ge 42, 3) := by decide +kernel
theorem dX1_lampWithMostLinks_12 : decode cX1_lampWithMostLinks 12 = .ok (.aload_n 0, 1) := by decide +kernel
theorem dX1_lampWithMostLinks_13 : decode cX1_lampWithMostLinks 13 = .ok (.getfield 21, 3) := by decide +kernel
theorem dX1_lampWithMostLinks_16 : decode cX1_lampWithMostLinks 16 = .ok (.iload_n 3, 1) := by decide +kernel
theorem dX1_lampWithMostLinks_17 : decode cX1_lampWithMostLinks 17 = .ok (.iaload, 1) := by decide +kernel
theorem dX1_lampWithMostLinks_18 : decode cX1_lampWithMostLinks 18 = .ok (.invokestatic 83, 3) := by decide +kernel
theorem dX1_lampWithMostLinks_21 : decode cX1_lampWithMostLinks 21 = .ok (.istore 4, 2) := by decide +kernel
theorem dX1_lampWithMostLinks_23 : decode cX1_lampWithMostLinks 23 = .ok (.aload_n 0, 1) := by decide +kernel
theorem dX1_lampWithMostLinks_24 : decode cX1_lampWithMostLinks 24 = .ok (.getfield 50, 3) := by decide +kernel
theorem dX1_lampWithMostLinks_27 : decode cX1_lampWithMostLinks 27 = .ok (.iload_n 3, 1) := by decide +kernel
theorem dX1_lampWithMostLinks_28 : decode cX1_lampWithMostLinks 28 = .ok (.invokestatic 72, 3) := by decide +kernel
theorem dX1_lampWithMostLinks_31 : decode cX1_lampWithMostLinks 31 = .ok (.ifCond .eq 14, 3) := by decide +kernel
theorem dX1_lampWithMostLinks_34 : decode cX1_lampWithMostLinks 34 = .ok (.iload 4, 2) := by decide +kernel
theorem dX1_lampWithMostLinks_36 : decode cX1_lampWithMostLinks 36 = .ok (.iload_n 2, 1) := by decide +kernel
theorem dX1_lampWithMostLinks_37 : decode cX1_lampWithMostLinks 37 = .ok (.if_icmp .le 8, 3) := by decide +kernel
theorem dX1_lampWithMostLinks_40 : decode cX1_lampWithMostLinks 40 = .ok (.iload_n 3, 1) := by decide +kernel
theorem dX1_lampWithMostLinks_41 : decode cX1_lampWithMostLinks 41 = .ok (.istore_n 1, 1) := by decide +kernel
theorem dX1_lampWithMostLinks_42 : decode cX1_lampWithMostLinks 42 = .ok (.iload 4, 2) := by decide +kernel
theorem dX1_lampWithMostLinks_44 : decode cX1_lampWithMostLinks 44 = .ok (.istore_n 2, 1) := by decide +kernel
theorem dX1_lampWithMostLinks_45 : decode cX1_lampWithMostLinks 45 = .ok (.iinc 3 1, 3) := by decide +kernel
theorem dX1_lampWithMostLinks_48 : decode cX1_lampWithMostLinks 48 = .ok (.goto (-42), 3) := by decide +kernel
theorem dX1_lampWithMostLinks_51 : decode cX1_lampWithMostLinks 51 = .ok (.iload_n 1, 1) := by decide +kernel
theorem dX1_lampWithMostLinks_52 : decode cX1_lampWithMostLinks 52 = .ok (.ireturn, 1) := by decide +kernel
theorem dX1_tellLamp_0 : decode cX1_tellLamp 0 = .ok (.iload_n 2, 1) := by decide +kernel
theorem dX1_tellLamp_1 : decode cX1_tellLamp 1 = .ok (.tableswitch 130 0 9 #[55, 62, 69, 83, 90, 97, 104, 111, 117, 123], 55) := by decide +kernel
theorem dX1_tellLamp_56 : decode cX1_tellLamp 56 = .ok (.aload_n 0, 1) := by decide +kernel
theorem dX1_tellLamp_57 : decode cX1_tellLamp 57 = .ok (.getfield 9, 3) := by decide +kernel
theorem dX1_tellLamp_60 : decode cX1_tellLamp 60 = .ok (.iload_n 1, 1) := by decide +kernel
theorem dX1_tellLamp_61 : decode cX1_tellLamp 61 = .ok (.iaload, 1) := by decide +kernel
theorem dX1_tellLamp_62 : decode cX1_tellLamp 62 = .ok (.ireturn, 1) := by decide +kernel
theorem dX1_tellLamp_63 : decode cX1_tellLamp 63 = .ok (.aload_n 0, 1) := by decide +kernel
theorem dX1_tellLamp_64 : decode cX1_tellLamp 64 = .ok (.getfield 15, 3) := by decide +kernel
theorem dX1_tellLamp_67 : decode cX1_tellLamp 67 = .ok (.iload_n 1, 1) := by decide +kernel
theorem dX1_tellLamp_68 : decode cX1_tellLamp 68 = .ok (.iaload, 1) := by decide +kernel
theorem dX1_tellLamp_69 : decode cX1_tellLamp 69 = .ok (.ireturn, 1) := by decide +kernel
theorem dX1_tellLamp_70 : decode cX1_tellLamp 70 = .ok (.aload_n 0, 1) := by decide +kernel
theorem dX1_tellLamp_71 : decode cX1_tellLamp 71 = .ok (.iload_n 1, 1) := by decide +kernel
theorem dX1_tellLamp_72 : decode cX1_tellLamp 72 = .ok (.invokevirtual 76, 3) := by decide +kernel
theorem dX1_tellLamp_75 : decode cX1_tellLamp 75 = .ok (.ifCond .eq 7, 3) := by decide +kernel
theorem dX1_tellLamp_78 : decode cX1_tellLamp 78 = .ok (.iconst 1, 1) := by decide +kernel
theorem dX1_tellLamp_79 : decode cX1_tellLamp 79 = .ok (.goto 4, 3) := by decide +kernel
theorem dX1_tellLamp_82 : decode cX1_tellLamp 82 = .ok (.iconst 0, 1) := by decide +kernel
theorem dX1_tellLamp_83 : decode cX1_tellLamp 83 = .ok (.ireturn, 1) := by decide +kernel
theorem dX1_tellLamp_84 : decode cX1_tellLamp 84 = .ok (.aload_n 0, 1) := by decide +kernel
theorem dX1_tellLamp_85 : decode cX1_tellLamp 85 = .ok (.getfield 18, 3) := by decide +kernel
theorem dX1_tellLamp_88 : decode cX1_tellLamp 88 = .ok (.iload_n 1, 1) := by decide +kernel
theorem dX1_tellLamp_89 : decode cX1_tellLamp 89 = .ok (.iaload, 1) := by decide +kernel
theorem dX1_tellLamp_90 : decode cX1_tellLamp 90 = .ok (.ireturn, 1) := by decide +kernel
theorem dX1_tellLamp_91 : decode cX1_tellLamp 91 = .ok (.aload_n 0, 1) := by decide +kernel
theorem dX1_tellLamp_92 : decode cX1_tellLamp 92 = .ok (.getfield 24, 3) := by decide +kernel
theorem dX1_tellLamp_95 : decode cX1_tellLamp 95 = .ok (.iload_n 1, 1) := by decide +kernel
theorem dX1_tellLamp_96 : decode cX1_tellLamp 96 = .ok (.iaload, 1) := by decide +kernel
theorem dX1_tellLamp_97 : decode cX1_tellLamp 97 = .ok (.ireturn, 1) := by decide +kernel
theorem dX1_tellLamp_98 : decode cX1_tellLamp 98 = .ok (.aload_n 0, 1) := by decide +kernel
theorem dX1_tellLamp_99 : decode cX1_tellLamp 99 = .ok (.getfield 27, 3) := by decide +kernel
theorem dX1_tellLamp_102 : decode cX1_tellLamp 102 = .ok (.iload_n 1, 1) := by decide +kernel
theorem dX1_tellLamp_103 : decode cX1_tellLamp 103 = .ok (.iaload, 1) := by decide +kernel
theorem dX1_tellLamp_104 : decode cX1_tellLamp 104 = .ok (.ireturn, 1) := by decide +kernel
theorem dX1_tellLamp_105 : decode cX1_tellLamp 105 = .ok (.aload_n 0, 1) := by decide +kernel
theorem dX1_tellLamp_106 : decode cX1_tellLamp 106 = .ok (.getfield 21, 3) := by decide +kernel
theorem dX1_tellLamp_109 : decode cX1_tellLamp 109 = .ok (.iload_n 1, 1) := by decide +kernel
theorem dX1_tellLamp_110 : decode cX1_tellLamp 110 = .ok (.iaload, 1) := by decide +kernel
theorem dX1_tellLamp_111 : decode cX1_tellLamp 111 = .ok (.ireturn, 1) := by decide +kernel
theorem dX1_tellLamp_112 : decode cX1_tellLamp 112 = .ok (.aload_n 0, 1) := by decide +kernel
theorem dX1_tellLamp_113 : decode cX1_tellLamp 113 = .ok (.iload_n 1, 1) := by decide +kernel
theorem dX1_tellLamp_114 : decode cX1_tellLamp 114 = .ok (.invokevirtual 133, 3) := by decide +kernel
theorem dX1_tellLamp_117 : decode cX1_tellLamp 117 = .ok (.ireturn, 1) := by decide +kernel
theorem dX1_tellLamp_118 : decode cX1_tellLamp 118 = .ok (.aload_n 0, 1) := by decide +kernel
theorem dX1_tellLamp_119 : decode cX1_tellLamp 119 = .ok (.iload_n 1, 1) := by decide +kernel
theorem dX1_tellLamp_120 : decode cX1_tellLamp 120 = .ok (.invokevirtual 136, 3) := by decide +kernel
theorem dX1_tellLamp_123 : decode cX1_tellLamp 123 = .ok (.ireturn, 1) := by decide +kernel
theorem dX1_tellLamp_124 : decode cX1_tellLamp 124 = .ok (.aload_n 0, 1) := by decide +kernel
theorem dX1_tellLamp_125 : decode cX1_tellLamp 125 = .ok (.getfield 30, 3) := by decide +kernel
theorem dX1_tellLamp_128 : decode cX1_tellLamp 128 = .ok (.iload_n 1, 1) := by decide +kernel
theorem dX1_tellLamp_129 : decode cX1_tellLamp 129 = .ok (.iaload, 1) := by decide +kernel
theorem dX1_tellLamp_130 : decode cX1_tellLamp 130 = .ok (.ireturn, 1) := by decide +kernel
theorem dX1_tellLamp_131 : decode cX1_tellLamp 131 = .ok (.bipush (-2), 2) := by decide +kernel
theorem dX1_tellLamp_133 : decode cX1_tellLamp 133 = .ok (.ireturn, 1) := by decide +kernel
theorem dX1_tellMesh_0 : decode cX1_tellMesh 0 = .ok (.iload_n 1, 1) := by decide +kernel
theorem dX1_tellMesh_1 : decode cX1_tellMesh 1 = .ok (.tableswitch 129 0 11 #[63, 68, 73, 78, 83, 88, 93, 98, 103, 108, 115, 122], 63) := by decide +kernel
theorem dX1_tellMesh_64 : decode cX1_tellMesh 64 = .ok (.aload_n 0, 1) := by decide +kernel
theorem dX1_tellMesh_65 : decode cX1_tellMesh 65 = .ok (.getfield 57, 3) := by decide +kernel
theorem dX1_tellMesh_68 : decode cX1_tellMesh 68 = .ok (.ireturn, 1) := by decide +kernel
theorem dX1_tellMesh_69 : decode cX1_tellMesh 69 = .ok (.aload_n 0, 1) := by decide +kernel
theorem dX1_tellMesh_70 : decode cX1_tellMesh 70 = .ok (.invokevirtual 139, 3) := by decide +kernel
theorem dX1_tellMesh_73 : decode cX1_tellMesh 73 = .ok (.ireturn, 1) := by decide +kernel
theorem dX1_tellMesh_74 : decode cX1_tellMesh 74 = .ok (.aload_n 0, 1) := by decide +kernel
theorem dX1_tellMesh_75 : decode cX1_tellMesh 75 = .ok (.invokevirtual 142, 3) := by decide +kernel
theorem dX1_tellMesh_78 : decode cX1_tellMesh 78 = .ok (.ireturn, 1) := by decide +kernel
theorem dX1_tellMesh_79 : decode cX1_tellMesh 79 = .ok (.aload_n 0, 1) := by decide +kernel
theorem dX1_tellMesh_80 : decode cX1_tellMesh 80 = .ok (.invokevirtual 145, 3) := by decide +kernel
theorem dX1_tellMesh_83 : decode cX1_tellMesh 83 = .ok (.ireturn, 1) := by decide +kernel
theorem dX1_tellMesh_84 : decode cX1_tellMesh 84 = .ok (.aload_n 0, 1) := by decide +kernel
theorem dX1_tellMesh_85 : decode cX1_tellMesh 85 = .ok (.invokevirtual 148, 3) := by decide +kernel
theorem dX1_tellMesh_88 : decode cX1_tellMesh 88 = .ok (.ireturn, 1) := by decide +kernel
theorem dX1_tellMesh_89 : decode cX1_tellMesh 89 = .ok (.aload_n 0, 1) := by decide +kernel
theorem dX1_tellMesh_90 : decode cX1_tellMesh 90 = .ok (.getfield 60, 3) := by decide +kernel
theorem dX1_tellMesh_93 : decode cX1_tellMesh 93 = .ok (.ireturn, 1) := by decide +kernel
theorem dX1_tellMesh_94 : decode cX1_tellMesh 94 = .ok (.aload_n 0, 1) := by decide +kernel
theorem dX1_tellMesh_95 : decode cX1_tellMesh 95 = .ok (.getfield 63, 3) := by decide +kernel
theorem dX1_tellMesh_98 : decode cX1_tellMesh 98 = .ok (.ireturn, 1) := by decide +kernel
theorem dX1_tellMesh_99 : decode cX1_tellMesh 99 = .ok (.aload_n 0, 1) := by decide +kernel
theorem dX1_tellMesh_100 : decode cX1_tellMesh 100 = .ok (.getfield 66, 3) := by decide +kernel
theorem dX1_tellMesh_103 : decode cX1_tellMesh 103 = .ok (.ireturn, 1) := by decide +kernel
theorem dX1_tellMesh_104 : decode cX1_tellMesh 104 = .ok (.aload_n 0, 1) := by decide +kernel
theorem dX1_tellMesh_105 : decode cX1_tellMesh 105 = .ok (.getfield 69, 3) := by decide +kernel
theorem dX1_tellMesh_108 : decode cX1_tellMesh 108 = .ok (.ireturn, 1) := by decide +kernel
theorem dX1_tellMesh_109 : decode cX1_tellMesh 109 = .ok (.aload_n 0, 1) := by decide +kernel
theorem dX1_tellMesh_110 : decode cX1_tellMesh 110 = .ok (.getfield 41, 3) := by decide +kernel
theorem dX1_tellMesh_113 : decode cX1_tellMesh 113 = .ok (.iconst 0, 1) := by decide +kernel
theorem dX1_tellMesh_114 : decode cX1_tellMesh 114 = .ok (.iaload, 1) := by decide +kernel
theorem dX1_tellMesh_115 : decode cX1_tellMesh 115 = .ok (.ireturn, 1) := by decide +kernel
theorem dX1_tellMesh_116 : decode cX1_tellMesh 116 = .ok (.aload_n 0, 1) := by decide +kernel
theorem dX1_tellMesh_117 : decode cX1_tellMesh 117 = .ok (.getfield 41, 3) := by decide +kernel
theorem dX1_tellMesh_120 : decode cX1_tellMesh 120 = .ok (.iconst 1, 1) := by decide +kernel
theorem dX1_tellMesh_121 : decode cX1_tellMesh 121 = .ok (.iaload, 1) := by decide +kernel
theorem dX1_tellMesh_122 : decode cX1_tellMesh 122 = .ok (.ireturn, 1) := by decide +kernel
theorem dX1_tellMesh_123 : decode cX1_tellMesh 123 = .ok (.aload_n 0, 1) := by decide +kernel
theorem dX1_tellMesh_124 : decode cX1_tellMesh 124 = .ok (.getfield 41, 3) := by decide +kernel
theorem dX1_tellMesh_127 : decode cX1_tellMesh 127 = .ok (.iconst 2, 1) := by decide +kernel
theorem dX1_tellMesh_128 : decode cX1_tellMesh 128 = .ok (.iaload, 1) := by decide +kernel
theorem dX1_tellMesh_129 : decode cX1_tellMesh 129 = .ok (.ireturn, 1) := by decide +kernel
theorem dX1_tellMesh_130 : decode cX1_tellMesh 130 = .ok (.bipush (-2), 2) := by decide +kernel
theorem dX1_tellMesh_132 : decode cX1_tellMesh 132 = .ok (.ireturn, 1) := by decide +kernel
theorem dX2_init_0 : decode cX2_init 0 = .ok (.aload_n 0, 1) := by decide +kernel
theorem dX2_init_1 : decode cX2_init 1 = .ok (.invokespecial 3, 3) := by decide +kernel
theorem dX2_init_4 : decode cX2_init 4 = .ok (.aload_n 0, 1) := by decide +kernel
theorem dX2_init_5 : decode cX2_init 5 = .ok (.bipush 60, 2) := by decide +kernel
theorem dX2_init_7 : decode cX2_init 7 = .ok (.newarray .char, 2) := by decide +kernel
theorem dX2_init_9 : decode cX2_init 9 = .ok (.putfield 9, 3) := by decide +kernel
theorem dX2_init_12 : decode cX2_init 12 = .ok (.aload_n 0, 1) := by decide +kernel
theorem dX2_init_13 : decode cX2_init 13 = .ok (.bipush 16, 2) := by decide +kernel
theorem dX2_init_15 : decode cX2_init 15 = .ok (.newarray .int, 2) := by decide +kernel
theorem dX2_init_17 : decode cX2_init 17 = .ok (.putfield 15, 3) := by decide +kernel
theorem dX2_init_20 : decode cX2_init 20 = .ok (.aload_n 0, 1) := by decide +kernel
theorem dX2_init_21 : decode cX2_init 21 = .ok (.bipush 16, 2) := by decide +kernel
theorem dX2_init_23 : decode cX2_init 23 = .ok (.newarray .int, 2) := by decide +kernel
theorem dX2_init_25 : decode cX2_init 25 = .ok (.putfield 19, 3) := by decide +kernel
theorem dX2_init_28 : decode cX2_init 28 = .ok (.aload_n 0, 1) := by decide +kernel
theorem dX2_init_29 : decode cX2_init 29 = .ok (.bipush 16, 2) := by decide +kernel
theorem dX2_init_31 : decode cX2_init 31 = .ok (.newarray .int, 2) := by decide +kernel
theorem dX2_init_33 : decode cX2_init 33 = .ok (.putfield 22, 3) := by decide +kernel
theorem dX2_init_36 : decode cX2_init 36 = .ok (.return_, 1) := by decide +kernel
theorem dX2_length_0 : decode cX2_length 0 = .ok (.aload_n 0, 1) := by decide +kernel
theorem dX2_length_1 : decode cX2_length 1 = .ok (.getfield 25, 3) := by decide +kernel
theorem dX2_length_4 : decode cX2_length 4 = .ok (.ireturn, 1) := by decide +kernel
theorem dX3_init_0 : decode cX3_init 0 = .ok (.aload_n 0, 1) := by decide +kernel
theorem dX3_init_1 : decode cX3_init 1 = .ok (.invokespecial 1, 3) := by decide +kernel
theorem dX3_init_4 : decode cX3_init 4 = .ok (.aload_n 0, 1) := by decide +kernel
theorem dX3_init_5 : decode cX3_init 5 = .ok (.new 7, 3) := by decide +kernel
theorem dX3_init_8 : decode cX3_init 8 = .ok (.dup, 1) := by decide +kernel
theorem dX3_init_9 : decode cX3_init 9 = .ok (.invokespecial 9, 3) := by decide +kernel
theorem dX3_init_12 : decode cX3_init 12 = .ok (.putfield 10, 3) := by decide +kernel
theorem dX3_init_15 : decode cX3_init 15 = .ok (.aload_n 0, 1) := by decide +kernel
theorem dX3_init_16 : decode cX3_init 16 = .ok (.new 7, 3) := by decide +kernel
theorem dX3_init_19 : decode cX3_init 19 = .ok (.dup, 1) := by decide +kernel
theorem dX3_init_20 : decode cX3_init 20 = .ok (.invokespecial 9, 3) := by decide +kernel
theorem dX3_init_23 : decode cX3_init 23 = .ok (.putfield 16, 3) := by decide +kernel
theorem dX3_init_26 : decode cX3_init 26 = .ok (.aload_n 0, 1) := by decide +kernel
theorem dX3_init_27 : decode cX3_init 27 = .ok (.new 7, 3) := by decide +kernel
theorem dX3_init_30 : decode cX3_init 30 = .ok (.dup, 1) := by decide +kernel
theorem dX3_init_31 : decode cX3_init 31 = .ok (.invokespecial 9, 3) := by decide +kernel
theorem dX3_init_34 : decode cX3_init 34 = .ok (.putfield 19, 3) := by decide +kernel
theorem dX3_init_37 : decode cX3_init 37 = .ok (.aload_n 0, 1) := by decide +kernel
theorem dX3_init_38 : decode cX3_init 38 = .ok (.iconst 0, 1) := by decide +kernel
theorem dX3_init_39 : decode cX3_init 39 = .ok (.putfield 22, 3) := by decide +kernel
theorem dX3_init_42 : decode cX3_init 42 = .ok (.aload_n 0, 1) := by decide +kernel
theorem dX3_init_43 : decode cX3_init 43 = .ok (.new 26, 3) := by decide +kernel
theorem dX3_init_46 : decode cX3_init 46 = .ok (.dup, 1) := by decide +kernel
theorem dX3_init_47 : decode cX3_init 47 = .ok (.invokespecial 28, 3) := by decide +kernel
theorem dX3_init_50 : decode cX3_init 50 = .ok (.putfield 29, 3) := by decide +kernel
theorem dX3_init_53 : decode cX3_init 53 = .ok (.aload_n 0, 1) := by decide +kernel
theorem dX3_init_54 : decode cX3_init 54 = .ok (.new 33, 3) := by decide +kernel
theorem dX3_init_57 : decode cX3_init 57 = .ok (.dup, 1) := by decide +kernel
theorem dX3_init_58 : decode cX3_init 58 = .ok (.invokespecial 35, 3) := by decide +kernel
theorem dX3_init_61 : decode cX3_init 61 = .ok (.putfield 36, 3) := by decide +kernel
theorem dX3_init_64 : decode cX3_init 64 = .ok (.return_, 1) := by decide +kernel
theorem dX3_come_0 : decode cX3_come 0 = .ok (.aload_n 0, 1) := by decide +kernel
theorem dX3_come_1 : decode cX3_come 1 = .ok (.getfield 10, 3) := by decide +kernel
theorem dX3_come_4 : decode cX3_come 4 = .ok (.iload_n 1, 1) := by decide +kernel
theorem dX3_come_5 : decode cX3_come 5 = .ok (.invokevirtual 40, 3) := by decide +kernel
theorem dX3_come_8 : decode cX3_come 8 = .ok (.ifCond .eq 10, 3) := by decide +kernel
theorem dX3_come_11 : decode cX3_come 11 = .ok (.iload_n 2, 1) := by decide +kernel
theorem dX3_come_12 : decode cX3_come 12 = .ok (.invokestatic 44, 3) := by decide +kernel
theorem dX3_come_15 : decode cX3_come 15 = .ok (.ifCond .ne 6, 3) := by decide +kernel
theorem dX3_come_18 : decode cX3_come 18 = .ok (.bipush (-2), 2) := by decide +kernel
theorem dX3_come_20 : decode cX3_come 20 = .ok (.ireturn, 1) := by decide +kernel
theorem dX3_come_21 : decode cX3_come 21 = .ok (.aload_n 0, 1) := by decide +kernel
theorem dX3_come_22 : decode cX3_come 22 = .ok (.getfield 10, 3) := by decide +kernel
theorem dX3_come_25 : decode cX3_come 25 = .ok (.invokevirtual 47, 3) := by decide +kernel
theorem dX3_come_28 : decode cX3_come 28 = .ok (.istore_n 3, 1) := by decide +kernel
theorem dX3_come_29 : decode cX3_come 29 = .ok (.iload_n 3, 1) := by decide +kernel
theorem dX3_come_30 : decode cX3_come 30 = .ok (.iconst (-1), 1) := by decide +kernel
theorem dX3_come_31 : decode cX3_come 31 = .ok (.if_icmp .ne 6, 3) := by decide +kernel
theorem dX3_come_34 : decode cX3_come 34 = .ok (.bipush (-3), 2) := by decide +kernel
theorem dX3_come_36 : decode cX3_come 36 = .ok (.ireturn, 1) := by decide +kernel
theorem dX3_come_37 : decode cX3_come 37 = .ok (.aload_n 0, 1) := by decide +kernel
theorem dX3_come_38 : decode cX3_come 38 = .ok (.getfield 29, 3) := by decide +kernel
theorem dX3_come_41 : decode cX3_come 41 = .ok (.aload_n 0, 1) := by decide +kernel
theorem dX3_come_42 : decode cX3_come 42 = .ok (.getfield 10, 3) := by decide +kernel
theorem dX3_come_45 : decode cX3_come 45 = .ok (.invokevirtual 51, 3) := by decide +kernel
theorem dX3_come_48 : decode cX3_come 48 = .ok (.aload_n 0, 1) := by decide +kernel
theorem dX3_come_49 : decode cX3_come 49 = .ok (.getfield 10, 3) := by decide +kernel
theorem dX3_come_52 : decode cX3_come 52 = .ok (.iload_n 3, 1) := by decide +kernel
theorem dX3_come_53 : decode cX3_come 53 = .ok (.iload_n 1, 1) := by decide +kernel
theorem dX3_come_54 : decode cX3_come 54 = .ok (.iload_n 2, 1) := by decide +kernel
theorem dX3_come_55 : decode cX3_come 55 = .ok (.invokevirtual 55, 3) := by decide +kernel
theorem dX3_come_58 : decode cX3_come 58 = .ok (.iload_n 3, 1) := by decide +kernel
theorem dX3_come_59 : decode cX3_come 59 = .ok (.ireturn, 1) := by decide +kernel
theorem dX3_goAway_0 : decode cX3_goAway 0 = .ok (.aload_n 0, 1) := by decide +kernel
theorem dX3_goAway_1 : decode cX3_goAway 1 = .ok (.getfield 10, 3) := by decide +kernel
theorem dX3_goAway_4 : decode cX3_goAway 4 = .ok (.iload_n 1, 1) := by decide +kernel
theorem dX3_goAway_5 : decode cX3_goAway 5 = .ok (.invokevirtual 59, 3) := by decide +kernel
theorem dX3_goAway_8 : decode cX3_goAway 8 = .ok (.ifCond .ne 5, 3) := by decide +kernel
theorem dX3_goAway_11 : decode cX3_goAway 11 = .ok (.iconst (-1), 1) := by decide +kernel
theorem dX3_goAway_12 : decode cX3_goAway 12 = .ok (.ireturn, 1) := by decide +kernel
theorem dX3_goAway_13 : decode cX3_goAway 13 = .ok (.aload_n 0, 1) := by decide +kernel
theorem dX3_goAway_14 : decode cX3_goAway 14 = .ok (.getfield 29, 3) := by decide +kernel
theorem dX3_goAway_17 : decode cX3_goAway 17 = .ok (.aload_n 0, 1) := by decide +kernel
theorem dX3_goAway_18 : decode cX3_goAway 18 = .ok (.getfield 10, 3) := by decide +kernel
theorem dX3_goAway_21 : decode cX3_goAway 21 = .ok (.invokevirtual 51, 3) := by decide +kernel
theorem dX3_goAway_24 : decode cX3_goAway 24 = .ok (.aload_n 0, 1) := by decide +kernel
theorem dX3_goAway_25 : decode cX3_goAway 25 = .ok (.getfield 10, 3) := by decide +kernel
theorem dX3_goAway_28 : decode cX3_goAway 28 = .ok (.iload_n 1, 1) := by decide +kernel
theorem dX3_goAway_29 : decode cX3_goAway 29 = .ok (.invokevirtual 62, 3) := by decide +kernel
theorem dX3_goAway_32 : decode cX3_goAway 32 = .ok (.ireturn, 1) := by decide +kernel
theorem dX3_turn_0 : decode cX3_turn 0 = .ok (.aload_n 0, 1) := by decide +kernel
theorem dX3_turn_1 : decode cX3_turn 1 = .ok (.getfield 10, 3) := by decide +kernel
theorem dX3_turn_4 : decode cX3_turn 4 = .ok (.iload_n 1, 1) := by decide +kernel
theorem dX3_turn_5 : decode cX3_turn 5 = .ok (.invokevirtual 59, 3) := by decide +kernel
theorem dX3_turn_8 : decode cX3_turn 8 = .ok (.ifCond .ne 5, 3) := by decide +kernel
theorem dX3_turn_11 : decode cX3_turn 11 = .ok (.iconst (-1), 1) := by decide +kernel
theorem dX3_turn_12 : decode cX3_turn 12 = .ok (.ireturn, 1) := by decide +kernel
theorem dX3_turn_13 : decode cX3_turn 13 = .ok (.aload_n 0, 1) := by decide +kernel
theorem dX3_turn_14 : decode cX3_turn 14 = .ok (.getfield 10, 3) := by decide +kernel
theorem dX3_turn_17 : decode cX3_turn 17 = .ok (.iload_n 1, 1) := by decide +kernel
theorem dX3_turn_18 : decode cX3_turn 18 = .ok (.invokevirtual 66, 3) := by decide +kernel
theorem dX3_turn_21 : decode cX3_turn 21 = .ok (.iload_n 2, 1) := by decide +kernel
theorem dX3_turn_22 : decode cX3_turn 22 = .ok (.if_icmp .ne 6, 3) := by decide +kernel
theorem dX3_turn_25 : decode cX3_turn 25 = .ok (.bipush (-5), 2) := by decide +kernel
theorem dX3_turn_27 : decode cX3_turn 27 = .ok (.ireturn, 1) := by decide +kernel
theorem dX3_turn_28 : decode cX3_turn 28 = .ok (.aload_n 0, 1) := by decide +kernel
theorem dX3_turn_29 : decode cX3_turn 29 = .ok (.getfield 29, 3) := by decide +kernel
theorem dX3_turn_32 : decode cX3_turn 32 = .ok (.aload_n 0, 1) := by decide +kernel
theorem dX3_turn_33 : decode cX3_turn 33 = .ok (.getfield 10, 3) := by decide +kernel
theorem dX3_turn_36 : decode cX3_turn 36 = .ok (.invokevirtual 51, 3) := by decide +kernel
theorem dX3_turn_39 : decode cX3_turn 39 = .ok (.aload_n 0, 1) := by decide +kernel
theorem dX3_turn_40 : decode cX3_turn 40 = .ok (.getfield 10, 3) := by decide +kernel
theorem dX3_turn_43 : decode cX3_turn 43 = .ok (.iload_n 1, 1) := by decide +kernel
theorem dX3_turn_44 : decode cX3_turn 44 = .ok (.iload_n 2, 1) := by decide +kernel
theorem dX3_turn_45 : decode cX3_turn 45 = .ok (.invokevirtual 69, 3) := by decide +kernel
theorem dX3_turn_48 : decode cX3_turn 48 = .ok (.aload_n 0, 1) := by decide +kernel
theorem dX3_turn_49 : decode cX3_turn 49 = .ok (.getfield 10, 3) := by decide +kernel
theorem dX3_turn_52 : decode cX3_turn 52 = .ok (.invokevirtual 73, 3) := by decide +kernel
theorem dX3_turn_55 : decode cX3_turn 55 = .ok (.ireturn, 1) := by decide +kernel
theorem dX3_link_0 : decode cX3_link 0 = .ok (.aload_n 0, 1) := by decide +kernel
theorem dX3_link_1 : decode cX3_link 1 = .ok (.getfield 10, 3) := by decide +kernel
theorem dX3_link_4 : decode cX3_link 4 = .ok (.iload_n 1, 1) := by decide +kernel
theorem dX3_link_5 : decode cX3_link 5 = .ok (.invokevirtual 59, 3) := by decide +kernel
theorem dX3_link_8 : decode cX3_link 8 = .ok (.ifCond .eq 14, 3) := by decide +kernel
theorem dX3_link_11 : decode cX3_link 11 = .ok (.aload_n 0, 1) := by decide +kernel
theorem dX3_link_12 : decode cX3_link 12 = .ok (.getfield 10, 3) := by decide +kernel
theorem dX3_link_15 : decode cX3_link 15 = .ok (.iload_n 2, 1) := by decide +kernel
theorem dX3_link_16 : decode cX3_link 16 = .ok (.invokevirtual 59, 3) := by decide +kernel
theorem dX3_link_19 : decode cX3_link 19 = .ok (.ifCond .ne 5, 3) := by decide +kernel
theorem dX3_link_22 : decode cX3_link 22 = .ok (.iconst (-1), 1) := by decide +kernel
theorem dX3_link_23 : decode cX3_link 23 = .ok (.ireturn, 1) := by decide +kernel
theorem dX3_link_24 : decode cX3_link 24 = .ok (.iload_n 1, 1) := by decide +kernel
theorem dX3_link_25 : decode cX3_link 25 = .ok (.iload_n 2, 1) := by decide +kernel
theorem dX3_link_26 : decode cX3_link 26 = .ok (.if_icmp .ne 6, 3) := by decide +kernel
theorem dX3_link_29 : decode cX3_link 29 = .ok (.bipush (-2), 2) := by decide +kernel
theorem dX3_link_31 : decode cX3_link 31 = .ok (.ireturn, 1) := by decide +kernel
theorem dX3_link_32 : decode cX3_link 32 = .ok (.aload_n 0, 1) := by decide +kernel
theorem dX3_link_33 : decode cX3_link 33 = .ok (.getfield 10, 3) := by decide +kernel
theorem dX3_link_36 : decode cX3_link 36 = .ok (.iload_n 1, 1) := by decide +kernel
theorem dX3_link_37 : decode cX3_link 37 = .ok (.iload_n 2, 1) := by decide +kernel
theorem dX3_link_38 : decode cX3_link 38 = .ok (.invokevirtual 76, 3) := by decide +kernel
theorem dX3_link_41 : decode cX3_link 41 = .ok (.iload_n 3, 1) := by decide +kernel
theorem dX3_link_42 : decode cX3_link 42 = .ok (.if_icmp .ne 6, 3) := by decide +kernel
theorem dX3_link_45 : decode cX3_link 45 = .ok (.bipush (-5), 2) := by decide +kernel
theorem dX3_link_47 : decode cX3_link 47 = .ok (.ireturn, 1) := by decide +kernel
theorem dX3_link_48 : decode cX3_link 48 = .ok (.aload_n 0, 1) := by decide +kernel
theorem dX3_link_49 : decode cX3_link 49 = .ok (.getfield 29, 3) := by decide +kernel
theorem dX3_link_52 : decode cX3_link 52 = .ok (.aload_n 0, 1) := by decide +kernel
theorem dX3_link_53 : decode cX3_link 53 = .ok (.getfield 10, 3) := by decide +kernel
theorem dX3_link_56 : decode cX3_link 56 = .ok (.invokevirtual 51, 3) := by decide +kernel
theorem dX3_link_59 : decode cX3_link 59 = .ok (.aload_n 0, 1) := by decide +kernel
theorem dX3_link_60 : decode cX3_link 60 = .ok (.getfield 10, 3) := by decide +kernel
theorem dX3_link_63 : decode cX3_link 63 = .ok (.iload_n 1, 1) := by decide +kernel
theorem dX3_link_64 : decode cX3_link 64 = .ok (.iload_n 2, 1) := by decide +kernel
theorem dX3_link_65 : decode cX3_link 65 = .ok (.iload_n 3, 1) := by decide +kernel
theorem dX3_link_66 : decode cX3_link 66 = .ok (.invokevirtual 80, 3) := by decide +kernel
theorem dX3_link_69 : decode cX3_link 69 = .ok (.aload_n 0, 1) := by decide +kernel
theorem dX3_link_70 : decode cX3_link 70 = .ok (.getfield 10, 3) := by decide +kernel
theorem dX3_link_73 : decode cX3_link 73 = .ok (.invokevirtual 84, 3) := by decide +kernel
theorem dX3_link_76 : decode cX3_link 76 = .ok (.ireturn, 1) := by decide +kernel
theorem dX3_tune_0 : decode cX3_tune 0 = .ok (.aload_n 0, 1) := by decide +kernel
theorem dX3_tune_1 : decode cX3_tune 1 = .ok (.getfield 10, 3) := by decide +kernel
theorem dX3_tune_4 : decode cX3_tune 4 = .ok (.iload_n 1, 1) := by decide +kernel
theorem dX3_tune_5 : decode cX3_tune 5 = .ok (.invokevirtual 59, 3) := by decide +kernel
theorem dX3_tune_8 : decode cX3_tune 8 = .ok (.ifCond .ne 5, 3) := by decide +kernel
theorem dX3_tune_11 : decode cX3_tune 11 = .ok (.iconst (-1), 1) := by decide +kernel
theorem dX3_tune_12 : decode cX3_tune 12 = .ok (.ireturn, 1) := by decide +kernel
theorem dX3_tune_13 : decode cX3_tune 13 = .ok (.aload_n 0, 1) := by decide +kernel
theorem dX3_tune_14 : decode cX3_tune 14 = .ok (.getfield 10, 3) := by decide +kernel
theorem dX3_tune_17 : decode cX3_tune 17 = .ok (.iload_n 2, 1) := by decide +kernel
theorem dX3_tune_18 : decode cX3_tune 18 = .ok (.invokevirtual 40, 3) := by decide +kernel
theorem dX3_tune_21 : decode cX3_tune 21 = .ok (.ifCond .eq 10, 3) := by decide +kernel
theorem dX3_tune_24 : decode cX3_tune 24 = .ok (.iload_n 3, 1) := by decide +kernel
theorem dX3_tune_25 : decode cX3_tune 25 = .ok (.invokestatic 44, 3) := by decide +kernel
theorem dX3_tune_28 : decode cX3_tune 28 = .ok (.ifCond .ne 6, 3) := by decide +kernel
theorem dX3_tune_31 : decode cX3_tune 31 = .ok (.bipush (-2), 2) := by decide +kernel
theorem dX3_tune_33 : decode cX3_tune 33 = .ok (.ireturn, 1) := by decide +kernel
theorem dX3_tune_34 : decode cX3_tune 34 = .ok (.aload_n 0, 1) := by decide +kernel
theorem dX3_tune_35 : decode cX3_tune 35 = .ok (.getfield 29, 3) := by decide +kernel
theorem dX3_tune_38 : decode cX3_tune 38 = .ok (.aload_n 0, 1) := by decide +kernel
theorem dX3_tune_39 : decode cX3_tune 39 = .ok (.getfield 10, 3) := by decide +kernel
theorem dX3_tune_42 : decode cX3_tune 42 = .ok (.invokevirtual 51, 3) := by decide +kernel
theorem dX3_tune_45 : decode cX3_tune 45 = .ok (.aload_n 0, 1) := by decide +kernel
theorem dX3_tune_46 : decode cX3_tune 46 = .ok (.getfield 10, 3) := by decide +kernel
theorem dX3_tune_49 : decode cX3_tune 49 = .ok (.iload_n 1, 1) := by decide +kernel
theorem dX3_tune_50 : decode cX3_tune 50 = .ok (.iload_n 2, 1) := by decide +kernel
theorem dX3_tune_51 : decode cX3_tune 51 = .ok (.iload_n 3, 1) := by decide +kernel
theorem dX3_tune_52 : decode cX3_tune 52 = .ok (.invokevirtual 87, 3) := by decide +kernel
theorem dX3_tune_55 : decode cX3_tune 55 = .ok (.ireturn, 1) := by decide +kernel
theorem dX3_set_0 : decode cX3_set 0 = .ok (.iload_n 1, 1) := by decide +kernel
theorem dX3_set_1 : decode cX3_set 1 = .ok (.ifCond .lt 8, 3) := by decide +kernel
theorem dX3_set_4 : decode cX3_set 4 = .ok (.iload_n 1, 1) := by decide +kernel
theorem dX3_set_5 : decode cX3_set 5 = .ok (.iconst 3, 1) := by decide +kernel
theorem dX3_set_6 : decode cX3_set 6 = .ok (.if_icmp .lt 5, 3) := by decide +kernel
theorem dX3_set_9 : decode cX3_set 9 = .ok (.iconst (-1), 1) := by decide +kernel
theorem dX3_set_10 : decode cX3_set 10 = .ok (.ireturn, 1) := by decide +kernel
theorem dX3_set_11 : decode cX3_set 11 = .ok (.iload_n 2, 1) := by decide +kernel
theorem dX3_set_12 : decode cX3_set 12 = .ok (.getstatic 91, 3) := by decide +kernel
theorem dX3_set_15 : decode cX3_set 15 = .ok (.iload_n 1, 1) := by decide +kernel
theorem dX3_set_16 : decode cX3_set 16 = .ok (.iaload, 1) := by decide +kernel
theorem dX3_set_17 : decode cX3_set 17 = .ok (.if_icmp .lt 12, 3) := by decide +kernel
theorem dX3_set_20 : decode cX3_set 20 = .ok (.iload_n 2, 1) := by decide +kernel
theorem dX3_set_21 : decode cX3_set 21 = .ok (.getstatic 95, 3) := by decide +kernel
theorem dX3_set_24 : decode cX3_set 24 = .ok (.iload_n 1, 1) := by decide +kernel
theorem dX3_set_25 : decode cX3_set 25 = .ok (.iaload, 1) := by decide +kernel
theorem dX3_set_26 : decode cX3_set 26 = .ok (.if_icmp .le 6, 3) := by decide +kernel
theorem dX3_set_29 : decode cX3_set 29 = .ok (.bipush (-2), 2) := by decide +kernel
theorem dX3_set_31 : decode cX3_set 31 = .ok (.ireturn, 1) := by decide +kernel
theorem dX3_set_32 : decode cX3_set 32 = .ok (.aload_n 0, 1) := by decide +kernel
theorem dX3_set_33 : decode cX3_set 33 = .ok (.getfield 10, 3) := by decide +kernel
theorem dX3_set_36 : decode cX3_set 36 = .ok (.iload_n 1, 1) := by decide +kernel
theorem dX3_set_37 : decode cX3_set 37 = .ok (.invokevirtual 98, 3) := by decide +kernel
theorem dX3_set_40 : decode cX3_set 40 = .ok (.iload_n 2, 1) := by decide +kernel
theorem dX3_set_41 : decode cX3_set 41 = .ok (.if_icmp .ne 6, 3) := by decide +kernel
theorem dX3_set_44 : decode cX3_set 44 = .ok (.bipush (-5), 2) := by decide +kernel
theorem dX3_set_46 : decode cX3_set 46 = .ok (.ireturn, 1) := by decide +kernel
theorem dX3_set_47 : decode cX3_set 47 = .ok (.aload_n 0, 1) := by decide +kernel
theorem dX3_set_48 : decode cX3_set 48 = .ok (.getfield 29, 3) := by decide +kernel
theorem dX3_set_51 : decode cX3_set 51 = .ok (.aload_n 0, 1) := by decide +kernel
theorem dX3_set_52 : decode cX3_set 52 = .ok (.getfield 10, 3) := by decide +kernel
theorem dX3_set_55 : decode cX3_set 55 = .ok (.invokevirtual 51, 3) := by decide +kernel
theorem dX3_set_58 : decode cX3_set 58 = .ok (.aload_n 0, 1) := by decide +kernel
theorem dX3_set_59 : decode cX3_set 59 = .ok (.getfield 10, 3) := by decide +kernel
theorem dX3_set_62 : decode cX3_set 62 = .ok (.iload_n 1, 1) := by decide +kernel
theorem dX3_set_63 : decode cX3_set 63 = .ok (.iload_n 2, 1) := by decide +kernel
theorem dX3_set_64 : decode cX3_set 64 = .ok (.invokevirtual 101, 3) := by decide +kernel
theorem dX3_set_67 : decode cX3_set 67 = .ok (.ireturn, 1) := by decide +kernel
theorem dX3_pass_0 : decode cX3_pass 0 = .ok (.iload_n 1, 1) := by decide +kernel
theorem dX3_pass_1 : decode cX3_pass 1 = .ok (.iconst 1, 1) := by decide +kernel
theorem dX3_pass_2 : decode cX3_pass 2 = .ok (.if_icmp .lt 10, 3) := by decide +kernel
theorem dX3_pass_5 : decode cX3_pass 5 = .ok (.iload_n 1, 1) := by decide +kernel
theorem dX3_pass_6 : decode cX3_pass 6 = .ok (.sipush 999, 3) := by decide +kernel
theorem dX3_pass_9 : decode cX3_pass 9 = .ok (.if_icmp .le 6, 3) := by decide +kernel
theorem dX3_pass_12 : decode cX3_pass 12 = .ok (.bipush (-2), 2) := by decide +kernel
theorem dX3_pass_14 : decode cX3_pass 14 = .ok (.ireturn, 1) := by decide +kernel
theorem dX3_pass_15 : decode cX3_pass 15 = .ok (.aload_n 0, 1) := by decide +kernel
theorem dX3_pass_16 : decode cX3_pass 16 = .ok (.getfield 10, 3) := by decide +kernel
theorem dX3_pass_19 : decode cX3_pass 19 = .ok (.invokevirtual 105, 3) := by decide +kernel
theorem dX3_pass_22 : decode cX3_pass 22 = .ok (.iload_n 1, 1) := by decide +kernel
theorem dX3_pass_23 : decode cX3_pass 23 = .ok (.iadd, 1) := by decide +kernel
theorem dX3_pass_24 : decode cX3_pass 24 = .ok (.ldc 108, 2) := by decide +kernel
theorem dX3_pass_26 : decode cX3_pass 26 = .ok (.if_icmp .le 6, 3) := by decide +kernel
theorem dX3_pass_29 : decode cX3_pass 29 = .ok (.bipush (-3), 2) := by decide +kernel
theorem dX3_pass_31 : decode cX3_pass 31 = .ok (.ireturn, 1) := by decide +kernel
theorem dX3_pass_32 : decode cX3_pass 32 = .ok (.aload_n 0, 1) := by decide +kernel
theorem dX3_pass_33 : decode cX3_pass 33 = .ok (.getfield 29, 3) := by decide +kernel
theorem dX3_pass_36 : decode cX3_pass 36 = .ok (.aload_n 0, 1) := by decide +kernel
theorem dX3_pass_37 : decode cX3_pass 37 = .ok (.getfield 10, 3) := by decide +kernel
theorem dX3_pass_40 : decode cX3_pass 40 = .ok (.invokevirtual 51, 3) := by decide +kernel
theorem dX3_pass_43 : decode cX3_pass 43 = .ok (.aload_n 0, 1) := by decide +kernel
theorem dX3_pass_44 : decode cX3_pass 44 = .ok (.getfield 10, 3) := by decide +kernel
theorem dX3_pass_47 : decode cX3_pass 47 = .ok (.invokevirtual 109, 3) := by decide +kernel
theorem dX3_pass_50 : decode cX3_pass 50 = .ok (.istore_n 2, 1) := by decide +kernel
theorem dX3_pass_51 : decode cX3_pass 51 = .ok (.aload_n 0, 1) := by decide +kernel
theorem dX3_pass_52 : decode cX3_pass 52 = .ok (.getfield 10, 3) := by decide +kernel
theorem dX3_pass_55 : decode cX3_pass 55 = .ok (.iload_n 1, 1) := by decide +kernel
theorem dX3_pass_56 : decode cX3_pass 56 = .ok (.invokevirtual 112, 3) := by decide +kernel
theorem dX3_pass_59 : decode cX3_pass 59 = .ok (.aload_n 0, 1) := by decide +kernel
theorem dX3_pass_60 : decode cX3_pass 60 = .ok (.getfield 10, 3) := by decide +kernel
theorem dX3_pass_63 : decode cX3_pass 63 = .ok (.invokevirtual 109, 3) := by decide +kernel
theorem dX3_pass_66 : decode cX3_pass 66 = .ok (.iload_n 2, 1) := by decide +kernel
theorem dX3_pass_67 : decode cX3_pass 67 = .ok (.isub, 1) := by decide +kernel
theorem dX3_pass_68 : decode cX3_pass 68 = .ok (.ireturn, 1) := by decide +kernel
theorem dX3_undo_0 : decode cX3_undo 0 = .ok (.aload_n 0, 1) := by decide +kernel
theorem dX3_undo_1 : decode cX3_undo 1 = .ok (.getfield 29, 3) := by decide +kernel
theorem dX3_undo_4 : decode cX3_undo 4 = .ok (.invokevirtual 142, 3) := by decide +kernel
theorem dX3_undo_7 : decode cX3_undo 7 = .ok (.ifCond .ne 6, 3) := by decide +kernel
theorem dX3_undo_10 : decode cX3_undo 10 = .ok (.bipush (-5), 2) := by decide +kernel
theorem dX3_undo_12 : decode cX3_undo 12 = .ok (.ireturn, 1) := by decide +kernel
theorem dX3_undo_13 : decode cX3_undo 13 = .ok (.aload_n 0, 1) := by decide +kernel
theorem dX3_undo_14 : decode cX3_undo 14 = .ok (.getfield 29, 3) := by decide +kernel
theorem dX3_undo_17 : decode cX3_undo 17 = .ok (.aload_n 0, 1) := by decide +kernel
theorem dX3_undo_18 : decode cX3_undo 18 = .ok (.getfield 10, 3) := by decide +kernel
theorem dX3_undo_21 : decode cX3_undo 21 = .ok (.invokevirtual 145, 3) := by decide +kernel
theorem dX3_undo_24 : decode cX3_undo 24 = .ok (.aload_n 0, 1) := by decide +kernel
theorem dX3_undo_25 : decode cX3_undo 25 = .ok (.getfield 29, 3) := by decide +kernel
theorem dX3_undo_28 : decode cX3_undo 28 = .ok (.invokevirtual 142, 3) := by decide +kernel
theorem dX3_undo_31 : decode cX3_undo 31 = .ok (.ireturn, 1) := by decide +kernel
theorem dX3_lamp_0 : decode cX3_lamp 0 = .ok (.aload_n 0, 1) := by decide +kernel
theorem dX3_lamp_1 : decode cX3_lamp 1 = .ok (.getfield 10, 3) := by decide +kernel
theorem dX3_lamp_4 : decode cX3_lamp 4 = .ok (.iload_n 1, 1) := by decide +kernel
theorem dX3_lamp_5 : decode cX3_lamp 5 = .ok (.invokevirtual 59, 3) := by decide +kernel
theorem dX3_lamp_8 : decode cX3_lamp 8 = .ok (.ifCond .ne 5, 3) := by decide +kernel
theorem dX3_lamp_11 : decode cX3_lamp 11 = .ok (.iconst (-1), 1) := by decide +kernel
theorem dX3_lamp_12 : decode cX3_lamp 12 = .ok (.ireturn, 1) := by decide +kernel
theorem dX3_lamp_13 : decode cX3_lamp 13 = .ok (.aload_n 0, 1) := by decide +kernel
theorem dX3_lamp_14 : decode cX3_lamp 14 = .ok (.getfield 10, 3) := by decide +kernel
theorem dX3_lamp_17 : decode cX3_lamp 17 = .ok (.iload_n 1, 1) := by decide +kernel
theorem dX3_lamp_18 : decode cX3_lamp 18 = .ok (.iload_n 2, 1) := by decide +kernel
theorem dX3_lamp_19 : decode cX3_lamp 19 = .ok (.invokevirtual 151, 3) := by decide +kernel
theorem dX3_lamp_22 : decode cX3_lamp 22 = .ok (.ireturn, 1) := by decide +kernel
theorem dX3_apart_0 : decode cX3_apart 0 = .ok (.aload_n 0, 1) := by decide +kernel
theorem dX3_apart_1 : decode cX3_apart 1 = .ok (.getfield 10, 3) := by decide +kernel
theorem dX3_apart_4 : decode cX3_apart 4 = .ok (.iload_n 1, 1) := by decide +kernel
theorem dX3_apart_5 : decode cX3_apart 5 = .ok (.invokevirtual 59, 3) := by decide +kernel
theorem dX3_apart_8 : decode cX3_apart 8 = .ok (.ifCond .eq 14, 3) := by decide +kernel
theorem dX3_apart_11 : decode cX3_apart 11 = .ok (.aload_n 0, 1) := by decide +kernel
theorem dX3_apart_12 : decode cX3_apart 12 = .ok (.getfield 10, 3) := by decide +kernel
theorem dX3_apart_15 : decode cX3_apart 15 = .ok (.iload_n 2, 1) := by decide +kernel
theorem dX3_apart_16 : decode cX3_apart 16 = .ok (.invokevirtual 59, 3) := by decide +kernel
theorem dX3_apart_19 : decode cX3_apart 19 = .ok (.ifCond .ne 5, 3) := by decide +kernel
theorem dX3_apart_22 : decode cX3_apart 22 = .ok (.iconst (-1), 1) := by decide +kernel
theorem dX3_apart_23 : decode cX3_apart 23 = .ok (.ireturn, 1) := by decide +kernel
theorem dX3_apart_24 : decode cX3_apart 24 = .ok (.aload_n 0, 1) := by decide +kernel
theorem dX3_apart_25 : decode cX3_apart 25 = .ok (.getfield 10, 3) := by decide +kernel
theorem dX3_apart_28 : decode cX3_apart 28 = .ok (.iload_n 1, 1) := by decide +kernel
theorem dX3_apart_29 : decode cX3_apart 29 = .ok (.iload_n 2, 1) := by decide +kernel
theorem dX3_apart_30 : decode cX3_apart 30 = .ok (.invokevirtual 154, 3) := by decide +kernel
theorem dX3_apart_33 : decode cX3_apart 33 = .ok (.ireturn, 1) := by decide +kernel
theorem dX3_next_0 : decode cX3_next 0 = .ok (.iload_n 1, 1) := by decide +kernel
theorem dX3_next_1 : decode cX3_next 1 = .ok (.ifCond .lt 8, 3) := by decide +kernel
theorem dX3_next_4 : decode cX3_next 4 = .ok (.iload_n 1, 1) := by decide +kernel
theorem dX3_next_5 : decode cX3_next 5 = .ok (.iconst 1, 1) := by decide +kernel
theorem dX3_next_6 : decode cX3_next 6 = .ok (.if_icmp .le 6, 3) := by decide +kernel
theorem dX3_next_9 : decode cX3_next 9 = .ok (.bipush (-2), 2) := by decide +kernel
theorem dX3_next_11 : decode cX3_next 11 = .ok (.ireturn, 1) := by decide +kernel
theorem dX3_next_12 : decode cX3_next 12 = .ok (.aload_n 0, 1) := by decide +kernel
theorem dX3_next_13 : decode cX3_next 13 = .ok (.getfield 10, 3) := by decide +kernel
theorem dX3_next_16 : decode cX3_next 16 = .ok (.invokevirtual 73, 3) := by decide +kernel
theorem dX3_next_19 : decode cX3_next 19 = .ok (.ifCond .ne 6, 3) := by decide +kernel
theorem dX3_next_22 : decode cX3_next 22 = .ok (.bipush (-5), 2) := by decide +kernel
theorem dX3_next_24 : decode cX3_next 24 = .ok (.ireturn, 1) := by decide +kernel
theorem dX3_next_25 : decode cX3_next 25 = .ok (.aload_n 0, 1) := by decide +kernel
theorem dX3_next_26 : decode cX3_next 26 = .ok (.getfield 16, 3) := by decide +kernel
theorem dX3_next_29 : decode cX3_next 29 = .ok (.aload_n 0, 1) := by decide +kernel
theorem dX3_next_30 : decode cX3_next 30 = .ok (.getfield 10, 3) := by decide +kernel
theorem dX3_next_33 : decode cX3_next 33 = .ok (.invokevirtual 148, 3) := by decide +kernel
theorem dX3_next_36 : decode cX3_next 36 = .ok (.iconst 1, 1) := by decide +kernel
theorem dX3_next_37 : decode cX3_next 37 = .ok (.istore_n 2, 1) := by decide +kernel
theorem dX3_next_38 : decode cX3_next 38 = .ok (.iload_n 2, 1) := by decide +kernel
theorem dX3_next_39 : decode cX3_next 39 = .ok (.sipush 400, 3) := by decide +kernel
theorem dX3_next_42 : decode cX3_next 42 = .ok (.if_icmp .gt 31, 3) := by decide +kernel
theorem dX3_next_45 : decode cX3_next 45 = .ok (.aload_n 0, 1) := by decide +kernel
theorem dX3_next_46 : decode cX3_next 46 = .ok (.getfield 16, 3) := by decide +kernel
theorem dX3_next_49 : decode cX3_next 49 = .ok (.invokevirtual 157, 3) := by decide +kernel
theorem dX3_next_52 : decode cX3_next 52 = .ok (.istore_n 3, 1) := by decide +kernel
theorem dX3_next_53 : decode cX3_next 53 = .ok (.iload_n 3, 1) := by decide +kernel
theorem dX3_next_54 : decode cX3_next 54 = .ok (.ifCond .eq 13, 3) := by decide +kernel
theorem dX3_next_57 : decode cX3_next 57 = .ok (.iload_n 1, 1) := by decide +kernel
theorem dX3_next_58 : decode cX3_next 58 = .ok (.ifCond .ne 7, 3) := by decide +kernel
theorem dX3_next_61 : decode cX3_next 61 = .ok (.iload_n 2, 1) := by decide +kernel
theorem dX3_next_62 : decode cX3_next 62 = .ok (.goto 4, 3) := by decide +kernel
theorem dX3_next_65 : decode cX3_next 65 = .ok (.iload_n 3, 1) := by decide +kernel
theorem dX3_next_66 : decode cX3_next 66 = .ok (.ireturn, 1) := by decide +kernel
theorem dX3_next_67 : decode cX3_next 67 = .ok (.iinc 2 1, 3) := by decide +kernel
theorem dX3_next_70 : decode cX3_next 70 = .ok (.goto (-32), 3) := by decide +kernel
theorem dX3_next_73 : decode cX3_next 73 = .ok (.bipush (-5), 2) := by decide +kernel
theorem dX3_next_75 : decode cX3_next 75 = .ok (.ireturn, 1) := by decide +kernel
theorem dX3_togetherIn_0 : decode cX3_togetherIn 0 = .ok (.aload_n 0, 1) := by decide +kernel
theorem dX3_togetherIn_1 : decode cX3_togetherIn 1 = .ok (.getfield 16, 3) := by decide +kernel
theorem dX3_togetherIn_4 : decode cX3_togetherIn 4 = .ok (.aload_n 0, 1) := by decide +kernel
theorem dX3_togetherIn_5 : decode cX3_togetherIn 5 = .ok (.getfield 10, 3) := by decide +kernel
theorem dX3_togetherIn_8 : decode cX3_togetherIn 8 = .ok (.invokevirtual 148, 3) := by decide +kernel
theorem dX3_togetherIn_11 : decode cX3_togetherIn 11 = .ok (.aload_n 0, 1) := by decide +kernel
theorem dX3_togetherIn_12 : decode cX3_togetherIn 12 = .ok (.invokevirtual 160, 3) := by decide +kernel
theorem dX3_togetherIn_15 : decode cX3_togetherIn 15 = .ok (.ireturn, 1) := by decide +kernel
theorem dX3_reason_0 : decode cX3_reason 0 = .ok (.aload_n 0, 1) := by decide +kernel
theorem dX3_reason_1 : decode cX3_reason 1 = .ok (.getfield 10, 3) := by decide +kernel
theorem dX3_reason_4 : decode cX3_reason 4 = .ok (.invokevirtual 163, 3) := by decide +kernel
theorem dX3_reason_7 : decode cX3_reason 7 = .ok (.ifCond .eq 5, 3) := by decide +kernel
theorem dX3_reason_10 : decode cX3_reason 10 = .ok (.iconst 0, 1) := by decide +kernel
theorem dX3_reason_11 : decode cX3_reason 11 = .ok (.ireturn, 1) := by decide +kernel
theorem dX3_reason_12 : decode cX3_reason 12 = .ok (.aload_n 0, 1) := by decide +kernel
theorem dX3_reason_13 : decode cX3_reason 13 = .ok (.getfield 10, 3) := by decide +kernel
theorem dX3_reason_16 : decode cX3_reason 16 = .ok (.invokevirtual 73, 3) := by decide +kernel
theorem dX3_reason_19 : decode cX3_reason 19 = .ok (.ifCond .ne 5, 3) := by decide +kernel
theorem dX3_reason_22 : decode cX3_reason 22 = .ok (.iconst 1, 1) := by decide +kernel
theorem dX3_reason_23 : decode cX3_reason 23 = .ok (.ireturn, 1) := by decide +kernel
theorem dX3_reason_24 : decode cX3_reason 24 = .ok (.aload_n 0, 1) := by decide +kernel
theorem dX3_reason_25 : decode cX3_reason 25 = .ok (.getfield 10, 3) := by decide +kernel
theorem dX3_reason_28 : decode cX3_reason 28 = .ok (.invokevirtual 166, 3) := by decide +kernel
theorem dX3_reason_31 : decode cX3_reason 31 = .ok (.iconst 1, 1) := by decide +kernel
theorem dX3_reason_32 : decode cX3_reason 32 = .ok (.if_icmp .le 5, 3) := by decide +kernel
theorem dX3_reason_35 : decode cX3_reason 35 = .ok (.iconst 2, 1) := by decide +kernel
theorem dX3_reason_36 : decode cX3_reason 36 = .ok (.ireturn, 1) := by decide +kernel
theorem dX3_reason_37 : decode cX3_reason 37 = .ok (.aload_n 0, 1) := by decide +kernel
theorem dX3_reason_38 : decode cX3_reason 38 = .ok (.getfield 10, 3) := by decide +kernel
theorem dX3_reason_41 : decode cX3_reason 41 = .ok (.invokevirtual 169, 3) := by decide +kernel
theorem dX3_reason_44 : decode cX3_reason 44 = .ok (.ifCond .eq 5, 3) := by decide +kernel
theorem dX3_reason_47 : decode cX3_reason 47 = .ok (.iconst 3, 1) := by decide +kernel
theorem dX3_reason_48 : decode cX3_reason 48 = .ok (.ireturn, 1) := by decide +kernel
theorem dX3_reason_49 : decode cX3_reason 49 = .ok (.aload_n 0, 1) := by decide +kernel
theorem dX3_reason_50 : decode cX3_reason 50 = .ok (.getfield 10, 3) := by decide +kernel
theorem dX3_reason_53 : decode cX3_reason 53 = .ok (.iconst 1, 1) := by decide +kernel
theorem dX3_reason_54 : decode cX3_reason 54 = .ok (.invokevirtual 98, 3) := by decide +kernel
theorem dX3_reason_57 : decode cX3_reason 57 = .ok (.ifCond .ne 7, 3) := by decide +kernel
theorem dX3_reason_60 : decode cX3_reason 60 = .ok (.iconst 4, 1) := by decide +kernel
theorem dX3_reason_61 : decode cX3_reason 61 = .ok (.goto 4, 3) := by decide +kernel
theorem dX3_reason_64 : decode cX3_reason 64 = .ok (.iconst 0, 1) := by decide +kernel
theorem dX3_reason_65 : decode cX3_reason 65 = .ok (.ireturn, 1) := by decide +kernel
theorem dX3_spread_0 : decode cX3_spread 0 = .ok (.aload_n 0, 1) := by decide +kernel
theorem dX3_spread_1 : decode cX3_spread 1 = .ok (.getfield 10, 3) := by decide +kernel
theorem dX3_spread_4 : decode cX3_spread 4 = .ok (.invokevirtual 73, 3) := by decide +kernel
theorem dX3_spread_7 : decode cX3_spread 7 = .ok (.ifCond .ne 6, 3) := by decide +kernel
theorem dX3_spread_10 : decode cX3_spread 10 = .ok (.bipush (-5), 2) := by decide +kernel
theorem dX3_spread_12 : decode cX3_spread 12 = .ok (.ireturn, 1) := by decide +kernel
theorem dX3_spread_13 : decode cX3_spread 13 = .ok (.aload_n 0, 1) := by decide +kernel
theorem dX3_spread_14 : decode cX3_spread 14 = .ok (.getfield 10, 3) := by decide +kernel
theorem dX3_spread_17 : decode cX3_spread 17 = .ok (.invokevirtual 172, 3) := by decide +kernel
theorem dX3_spread_20 : decode cX3_spread 20 = .ok (.ireturn, 1) := by decide +kernel
theorem dX3_ifLinked_0 : decode cX3_ifLinked 0 = .ok (.aload_n 0, 1) := by decide +kernel
theorem dX3_ifLinked_1 : decode cX3_ifLinked 1 = .ok (.getfield 10, 3) := by decide +kernel
theorem dX3_ifLinked_4 : decode cX3_ifLinked 4 = .ok (.iload_n 1, 1) := by decide +kernel
theorem dX3_ifLinked_5 : decode cX3_ifLinked 5 = .ok (.invokevirtual 59, 3) := by decide +kernel
theorem dX3_ifLinked_8 : decode cX3_ifLinked 8 = .ok (.ifCond .eq 14, 3) := by decide +kernel
theorem dX3_ifLinked_11 : decode cX3_ifLinked 11 = .ok (.aload_n 0, 1) := by decide +kernel
theorem dX3_ifLinked_12 : decode cX3_ifLinked 12 = .ok (.getfield 10, 3) := by decide +kernel
theorem dX3_ifLinked_15 : decode cX3_ifLinked 15 = .ok (.iload_n 2, 1) := by decide +kernel
theorem dX3_ifLinked_16 : decode cX3_ifLinked 16 = .ok (.invokevirtual 59, 3) := by decide +kernel
theorem dX3_ifLinked_19 : decode cX3_ifLinked 19 = .ok (.ifCond .ne 5, 3) := by decide +kernel
theorem dX3_ifLinked_22 : decode cX3_ifLinked 22 = .ok (.iconst (-1), 1) := by decide +kernel
theorem dX3_ifLinked_23 : decode cX3_ifLinked 23 = .ok (.ireturn, 1) := by decide +kernel
theorem dX3_ifLinked_24 : decode cX3_ifLinked 24 = .ok (.iload_n 1, 1) := by decide +kernel
theorem dX3_ifLinked_25 : decode cX3_ifLinked 25 = .ok (.iload_n 2, 1) := by decide +kernel
theorem dX3_ifLinked_26 : decode cX3_ifLinked 26 = .ok (.if_icmp .ne 6, 3) := by decide +kernel
theorem dX3_ifLinked_29 : decode cX3_ifLinked 29 = .ok (.bipush (-2), 2) := by decide +kernel
theorem dX3_ifLinked_31 : decode cX3_ifLinked 31 = .ok (.ireturn, 1) := by decide +kernel
theorem dX3_ifLinked_32 : decode cX3_ifLinked 32 = .ok (.aload_n 0, 1) := by decide +kernel
theorem dX3_ifLinked_33 : decode cX3_ifLinked 33 = .ok (.getfield 16, 3) := by decide +kernel
theorem dX3_ifLinked_36 : decode cX3_ifLinked 36 = .ok (.aload_n 0, 1) := by decide +kernel
theorem dX3_ifLinked_37 : decode cX3_ifLinked 37 = .ok (.getfield 10, 3) := by decide +kernel
theorem dX3_ifLinked_40 : decode cX3_ifLinked 40 = .ok (.invokevirtual 148, 3) := by decide +kernel
theorem dX3_ifLinked_43 : decode cX3_ifLinked 43 = .ok (.aload_n 0, 1) := by decide +kernel
theorem dX3_ifLinked_44 : decode cX3_ifLinked 44 = .ok (.getfield 16, 3) := by decide +kernel
theorem dX3_ifLinked_47 : decode cX3_ifLinked 47 = .ok (.iload_n 1, 1) := by decide +kernel
theorem dX3_ifLinked_48 : decode cX3_ifLinked 48 = .ok (.iload_n 2, 1) := by decide +kernel
theorem dX3_ifLinked_49 : decode cX3_ifLinked 49 = .ok (.aload_n 0, 1) := by decide +kernel
theorem dX3_ifLinked_50 : decode cX3_ifLinked 50 = .ok (.getfield 10, 3) := by decide +kernel
theorem dX3_ifLinked_53 : decode cX3_ifLinked 53 = .ok (.iload_n 1, 1) := by decide +kernel
theorem dX3_ifLinked_54 : decode cX3_ifLinked 54 = .ok (.iload_n 2, 1) := by decide +kernel
theorem dX3_ifLinked_55 : decode cX3_ifLinked 55 = .ok (.invokevirtual 76, 3) := by decide +kernel
theorem dX3_ifLinked_58 : decode cX3_ifLinked 58 = .ok (.ifCond .ne 7, 3) := by decide +kernel
theorem dX3_ifLinked_61 : decode cX3_ifLinked 61 = .ok (.iconst 1, 1) := by decide +kernel
theorem dX3_ifLinked_62 : decode cX3_ifLinked 62 = .ok (.goto 4, 3) := by decide +kernel
theorem dX3_ifLinked_65 : decode cX3_ifLinked 65 = .ok (.iconst 0, 1) := by decide +kernel
theorem dX3_ifLinked_66 : decode cX3_ifLinked 66 = .ok (.invokevirtual 80, 3) := by decide +kernel
theorem dX3_ifLinked_69 : decode cX3_ifLinked 69 = .ok (.aload_n 0, 1) := by decide +kernel
theorem dX3_ifLinked_70 : decode cX3_ifLinked 70 = .ok (.invokevirtual 160, 3) := by decide +kernel
theorem dX3_ifLinked_73 : decode cX3_ifLinked 73 = .ok (.ireturn, 1) := by decide +kernel
theorem dX3_hub_0 : decode cX3_hub 0 = .ok (.aload_n 0, 1) := by decide +kernel
theorem dX3_hub_1 : decode cX3_hub 1 = .ok (.getfield 10, 3) := by decide +kernel
theorem dX3_hub_4 : decode cX3_hub 4 = .ok (.invokevirtual 175, 3) := by decide +kernel
theorem dX3_hub_7 : decode cX3_hub 7 = .ok (.istore_n 1, 1) := by decide +kernel
theorem dX3_hub_8 : decode cX3_hub 8 = .ok (.iload_n 1, 1) := by decide +kernel
theorem dX3_hub_9 : decode cX3_hub 9 = .ok (.iconst (-1), 1) := by decide +kernel
theorem dX3_hub_10 : decode cX3_hub 10 = .ok (.if_icmp .ne 8, 3) := by decide +kernel
theorem dX3_hub_13 : decode cX3_hub 13 = .ok (.bipush (-5), 2) := by decide +kernel
theorem dX3_hub_15 : decode cX3_hub 15 = .ok (.goto 4, 3) := by decide +kernel
theorem dX3_hub_18 : decode cX3_hub 18 = .ok (.iload_n 1, 1) := by decide +kernel
theorem dX3_hub_19 : decode cX3_hub 19 = .ok (.ireturn, 1) := by decide +kernel
theorem dX3_bestLink_0 : decode cX3_bestLink 0 = .ok (.iload_n 1, 1) := by decide +kernel
theorem dX3_bestLink_1 : decode cX3_bestLink 1 = .ok (.ifCond .lt 8, 3) := by decide +kernel
theorem dX3_bestLink_4 : decode cX3_bestLink 4 = .ok (.iload_n 1, 1) := by decide +kernel
theorem dX3_bestLink_5 : decode cX3_bestLink 5 = .ok (.iconst 2, 1) := by decide +kernel
theorem dX3_bestLink_6 : decode cX3_bestLink 6 = .ok (.if_icmp .le 6, 3) := by decide +kernel
theorem dX3_bestLink_9 : decode cX3_bestLink 9 = .ok (.bipush (-2), 2) := by decide +kernel
theorem dX3_bestLink_11 : decode cX3_bestLink 11 = .ok (.ireturn, 1) := by decide +kernel
theorem dX3_bestLink_12 : decode cX3_bestLink 12 = .ok (.bipush (-5), 2) := by decide +kernel
theorem dX3_bestLink_14 : decode cX3_bestLink 14 = .ok (.istore_n 2, 1) := by decide +kernel
theorem dX3_bestLink_15 : decode cX3_bestLink 15 = .ok (.bipush (-5), 2) := by decide +kernel
theorem dX3_bestLink_17 : decode cX3_bestLink 17 = .ok (.istore_n 3, 1) := by decide +kernel
theorem dX3_bestLink_18 : decode cX3_bestLink 18 = .ok (.bipush (-5), 2) := by decide +kernel
theorem dX3_bestLink_20 : decode cX3_bestLink 20 = .ok (.istore 4, 2) := by decide +kernel
theorem dX3_bestLink_22 : decode cX3_bestLink 22 = .ok (.iconst 0, 1) := by decide +kernel
theorem dX3_bestLink_23 : decode cX3_bestLink 23 = .ok (.istore 5, 2) := by decide +kernel
theorem dX3_bestLink_25 : decode cX3_bestLink 25 = .ok (.iload 5, 2) := by decide +kernel
theorem dX3_bestLink_27 : decode cX3_bestLink 27 = .ok (.bipush 16, 2) := by decide +kernel
theorem dX3_bestLink_29 : decode cX3_bestLink 29 = .ok (.if_icmp .ge 76, 3) := by decide +kernel
theorem dX3_bestLink_32 : decode cX3_bestLink 32 = .ok (.iload 5, 2) := by decide +kernel
theorem dX3_bestLink_34 : decode cX3_bestLink 34 = .ok (.iconst 1, 1) := by decide +kernel
theorem dX3_bestLink_35 : decode cX3_bestLink 35 = .ok (.iadd, 1) := by decide +kernel
theorem dX3_bestLink_36 : decode cX3_bestLink 36 = .ok (.istore 6, 2) := by decide +kernel
theorem dX3_bestLink_38 : decode cX3_bestLink 38 = .ok (.iload 6, 2) := by decide +kernel
theorem dX3_bestLink_40 : decode cX3_bestLink 40 = .ok (.bipush 16, 2) := by decide +kernel
theorem dX3_bestLink_42 : decode cX3_bestLink 42 = .ok (.if_icmp .ge 57, 3) := by decide +kernel
theorem dX3_bestLink_45 : decode cX3_bestLink 45 = .ok (.aload_n 0, 1) := by decide +kernel
theorem dX3_bestLink_46 : decode cX3_bestLink 46 = .ok (.getfield 10, 3) := by decide +kernel
theorem dX3_bestLink_49 : decode cX3_bestLink 49 = .ok (.iload 5, 2) := by decide +kernel
theorem dX3_bestLink_51 : decode cX3_bestLink 51 = .ok (.iload 6, 2) := by decide +kernel
theorem dX3_bestLink_53 : decode cX3_bestLink 53 = .ok (.invokevirtual 178, 3) := by decide +kernel
theorem dX3_bestLink_56 : decode cX3_bestLink 56 = .ok (.ifCond .eq 37, 3) := by decide +kernel
theorem dX3_bestLink_59 : decode cX3_bestLink 59 = .ok (.aload_n 0, 1) := by decide +kernel
theorem dX3_bestLink_60 : decode cX3_bestLink 60 = .ok (.iload 5, 2) := by decide +kernel
theorem dX3_bestLink_62 : decode cX3_bestLink 62 = .ok (.iload 6, 2) := by decide +kernel
theorem dX3_bestLink_64 : decode cX3_bestLink 64 = .ok (.invokevirtual 181, 3) := by decide +kernel
theorem dX3_bestLink_67 : decode cX3_bestLink 67 = .ok (.istore 7, 2) := by decide +kernel
theorem dX3_bestLink_69 : decode cX3_bestLink 69 = .ok (.iload 4, 2) := by decide +kernel
theorem dX3_bestLink_71 : decode cX3_bestLink 71 = .ok (.bipush (-5), 2) := by decide +kernel
theorem dX3_bestLink_73 : decode cX3_bestLink 73 = .ok (.if_icmp .eq 10, 3) := by decide +kernel
theorem dX3_bestLink_76 : decode cX3_bestLink 76 = .ok (.iload 7, 2) := by decide +kernel
theorem dX3_bestLink_78 : decode cX3_bestLink 78 = .ok (.iload 4, 2) := by decide +kernel
theorem dX3_bestLink_80 : decode cX3_bestLink 80 = .ok (.if_icmp .ge 13, 3) := by decide +kernel
theorem dX3_bestLink_83 : decode cX3_bestLink 83 = .ok (.iload 5, 2) := by decide +kernel
theorem dX3_bestLink_85 : decode cX3_bestLink 85 = .ok (.istore_n 2, 1) := by decide +kernel
theorem dX3_bestLink_86 : decode cX3_bestLink 86 = .ok (.iload 6, 2) := by decide +kernel
theorem dX3_bestLink_88 : decode cX3_bestLink 88 = .ok (.istore_n 3, 1) := by decide +kernel
theorem dX3_bestLink_89 : decode cX3_bestLink 89 = .ok (.iload 7, 2) := by decide +kernel
theorem dX3_bestLink_91 : decode cX3_bestLink 91 = .ok (.istore 4, 2) := by decide +kernel
theorem dX3_bestLink_93 : decode cX3_bestLink 93 = .ok (.iinc 6 1, 3) := by decide +kernel
theorem dX3_bestLink_96 : decode cX3_bestLink 96 = .ok (.goto (-58), 3) := by decide +kernel
theorem dX3_bestLink_99 : decode cX3_bestLink 99 = .ok (.iinc 5 1, 3) := by decide +kernel
theorem dX3_bestLink_102 : decode cX3_bestLink 102 = .ok (.goto (-77), 3) := by decide +kernel
theorem dX3_bestLink_105 : decode cX3_bestLink 105 = .ok (.iload_n 1, 1) := by decide +kernel
theorem dX3_bestLink_106 : decode cX3_bestLink 106 = .ok (.ifCond .ne 5, 3) := by decide +kernel
theorem dX3_bestLink_109 : decode cX3_bestLink 109 = .ok (.iload_n 2, 1) := by decide +kernel
theorem dX3_bestLink_110 : decode cX3_bestLink 110 = .ok (.ireturn, 1) := by decide +kernel
theorem dX3_bestLink_111 : decode cX3_bestLink 111 = .ok (.iload_n 1, 1) := by decide +kernel
theorem dX3_bestLink_112 : decode cX3_bestLink 112 = .ok (.iconst 1, 1) := by decide +kernel
theorem dX3_bestLink_113 : decode cX3_bestLink 113 = .ok (.if_icmp .ne 7, 3) := by decide +kernel
theorem dX3_bestLink_116 : decode cX3_bestLink 116 = .ok (.iload_n 3, 1) := by decide +kernel
theorem dX3_bestLink_117 : decode cX3_bestLink 117 = .ok (.goto 5, 3) := by decide +kernel
theorem dX3_bestLink_120 : decode cX3_bestLink 120 = .ok (.iload 4, 2) := by decide +kernel
theorem dX3_bestLink_122 : decode cX3_bestLink 122 = .ok (.ireturn, 1) := by decide +kernel
theorem dX3_count_0 : decode cX3_count 0 = .ok (.iload_n 1, 1) := by decide +kernel
theorem dX3_count_1 : decode cX3_count 1 = .ok (.bipush 12, 2) := by decide +kernel
theorem dX3_count_3 : decode cX3_count 3 = .ok (.if_icmp .ne 11, 3) := by decide +kernel
theorem dX3_count_6 : decode cX3_count 6 = .ok (.aload_n 0, 1) := by decide +kernel
theorem dX3_count_7 : decode cX3_count 7 = .ok (.getfield 29, 3) := by decide +kernel
theorem dX3_count_10 : decode cX3_count 10 = .ok (.invokevirtual 142, 3) := by decide +kernel
theorem dX3_count_13 : decode cX3_count 13 = .ok (.ireturn, 1) := by decide +kernel
theorem dX3_count_14 : decode cX3_count 14 = .ok (.iload_n 1, 1) := by decide +kernel
theorem dX3_count_15 : decode cX3_count 15 = .ok (.bipush 13, 2) := by decide +kernel
theorem dX3_count_17 : decode cX3_count 17 = .ok (.if_icmp .ne 11, 3) := by decide +kernel
theorem dX3_count_20 : decode cX3_count 20 = .ok (.aload_n 0, 1) := by decide +kernel
theorem dX3_count_21 : decode cX3_count 21 = .ok (.getfield 36, 3) := by decide +kernel
theorem dX3_count_24 : decode cX3_count 24 = .ok (.invokevirtual 124, 3) := by decide +kernel
theorem dX3_count_27 : decode cX3_count 27 = .ok (.ireturn, 1) := by decide +kernel
theorem dX3_count_28 : decode cX3_count 28 = .ok (.aload_n 0, 1) := by decide +kernel
theorem dX3_count_29 : decode cX3_count 29 = .ok (.getfield 10, 3) := by decide +kernel
theorem dX3_count_32 : decode cX3_count 32 = .ok (.iload_n 1, 1) := by decide +kernel
theorem dX3_count_33 : decode cX3_count 33 = .ok (.invokevirtual 184, 3) := by decide +kernel
theorem dX3_count_36 : decode cX3_count 36 = .ok (.ireturn, 1) := by decide +kernel
theorem dX3_isRate_0 : decode cX3_isRate 0 = .ok (.iload_n 0, 1) := by decide +kernel
theorem dX3_isRate_1 : decode cX3_isRate 1 = .ok (.bipush 50, 2) := by decide +kernel
theorem dX3_isRate_3 : decode cX3_isRate 3 = .ok (.if_icmp .lt 14, 3) := by decide +kernel
theorem dX3_isRate_6 : decode cX3_isRate 6 = .ok (.iload_n 0, 1) := by decide +kernel
theorem dX3_isRate_7 : decode cX3_isRate 7 = .ok (.sipush 150, 3) := by decide +kernel
theorem dX3_isRate_10 : decode cX3_isRate 10 = .ok (.if_icmp .gt 7, 3) := by decide +kernel
theorem dX3_isRate_13 : decode cX3_isRate 13 = .ok (.iconst 1, 1) := by decide +kernel
theorem dX3_isRate_14 : decode cX3_isRate 14 = .ok (.goto 4, 3) := by decide +kernel
theorem dX3_isRate_17 : decode cX3_isRate 17 = .ok (.iconst 0, 1) := by decide +kernel
theorem dX3_isRate_18 : decode cX3_isRate 18 = .ok (.ireturn, 1) := by decide +kernel
theorem dX3_holds_0 : decode cX3_holds 0 = .ok (.iload_n 0, 1) := by decide +kernel
theorem dX3_holds_1 : decode cX3_holds 1 = .ok (.iload_n 1, 1) := by decide +kernel
theorem dX3_holds_2 : decode cX3_holds 2 = .ok (.ishr, 1) := by decide +kernel
theorem dX3_holds_3 : decode cX3_holds 3 = .ok (.iconst 1, 1) := by decide +kernel
theorem dX3_holds_4 : decode cX3_holds 4 = .ok (.iand, 1) := by decide +kernel
theorem dX3_holds_5 : decode cX3_holds 5 = .ok (.ifCond .eq 7, 3) := by decide +kernel
theorem dX3_holds_8 : decode cX3_holds 8 = .ok (.iconst 1, 1) := by decide +kernel
theorem dX3_holds_9 : decode cX3_holds 9 = .ok (.goto 4, 3) := by decide +kernel
theorem dX3_holds_12 : decode cX3_holds 12 = .ok (.iconst 0, 1) := by decide +kernel
theorem dX3_holds_13 : decode cX3_holds 13 = .ok (.ireturn, 1) := by decide +kernel
theorem dX3_trialTogetherIn_0 : decode cX3_trialTogetherIn 0 = .ok (.aload_n 0, 1) := by decide +kernel
theorem dX3_trialTogetherIn_1 : decode cX3_trialTogetherIn 1 = .ok (.getfield 16, 3) := by decide +kernel
theorem dX3_trialTogetherIn_4 : decode cX3_trialTogetherIn 4 = .ok (.invokevirtual 73, 3) := by decide +kernel
theorem dX3_trialTogetherIn_7 : decode cX3_trialTogetherIn 7 = .ok (.ifCond .ne 6, 3) := by decide +kernel
theorem dX3_trialTogetherIn_10 : decode cX3_trialTogetherIn 10 = .ok (.bipush (-5), 2) := by decide +kernel
theorem dX3_trialTogetherIn_12 : decode cX3_trialTogetherIn 12 = .ok (.ireturn, 1) := by decide +kernel
theorem dX3_trialTogetherIn_13 : decode cX3_trialTogetherIn 13 = .ok (.iconst 0, 1) := by decide +kernel
theorem dX3_trialTogetherIn_14 : decode cX3_trialTogetherIn 14 = .ok (.istore_n 1, 1) := by decide +kernel
theorem dX3_trialTogetherIn_15 : decode cX3_trialTogetherIn 15 = .ok (.iload_n 1, 1) := by decide +kernel
theorem dX3_trialTogetherIn_16 : decode cX3_trialTogetherIn 16 = .ok (.sipush 2000, 3) := by decide +kernel
theorem dX3_trialTogetherIn_19 : decode cX3_trialTogetherIn 19 = .ok (.if_icmp .ge 29, 3) := by decide +kernel
theorem dX3_trialTogetherIn_22 : decode cX3_trialTogetherIn 22 = .ok (.aload_n 0, 1) := by decide +kernel
theorem dX3_trialTogetherIn_23 : decode cX3_trialTogetherIn 23 = .ok (.getfield 16, 3) := by decide +kernel
theorem dX3_trialTogetherIn_26 : decode cX3_trialTogetherIn 26 = .ok (.invokevirtual 163, 3) := by decide +kernel
theorem dX3_trialTogetherIn_29 : decode cX3_trialTogetherIn 29 = .ok (.ifCond .eq 5, 3) := by decide +kernel
theorem dX3_trialTogetherIn_32 : decode cX3_trialTogetherIn 32 = .ok (.iload_n 1, 1) := by decide +kernel
theorem dX3_trialTogetherIn_33 : decode cX3_trialTogetherIn 33 = .ok (.ireturn, 1) := by decide +kernel
theorem dX3_trialTogetherIn_34 : decode cX3_trialTogetherIn 34 = .ok (.aload_n 0, 1) := by decide +kernel
theorem dX3_trialTogetherIn_35 : decode cX3_trialTogetherIn 35 = .ok (.getfield 16, 3) := by decide +kernel
theorem dX3_trialTogetherIn_38 : decode cX3_trialTogetherIn 38 = .ok (.invokevirtual 157, 3) := by decide +kernel
theorem dX3_trialTogetherIn_41 : decode cX3_trialTogetherIn 41 = .ok (.pop, 1) := by decide +kernel
theorem dX3_trialTogetherIn_42 : decode cX3_trialTogetherIn 42 = .ok (.iinc 1 1, 3) := by decide +kernel
theorem dX3_trialTogetherIn_45 : decode cX3_trialTogetherIn 45 = .ok (.goto (-30), 3) := by decide +kernel
theorem dX3_trialTogetherIn_48 : decode cX3_trialTogetherIn 48 = .ok (.aload_n 0, 1) := by decide +kernel
theorem dX3_trialTogetherIn_49 : decode cX3_trialTogetherIn 49 = .ok (.getfield 16, 3) := by decide +kernel
theorem dX3_trialTogetherIn_52 : decode cX3_trialTogetherIn 52 = .ok (.invokevirtual 163, 3) := by decide +kernel
theorem dX3_trialTogetherIn_55 : decode cX3_trialTogetherIn 55 = .ok (.ifCond .eq 9, 3) := by decide +kernel
theorem dX3_trialTogetherIn_58 : decode cX3_trialTogetherIn 58 = .ok (.sipush 2000, 3) := by decide +kernel
theorem dX3_trialTogetherIn_61 : decode cX3_trialTogetherIn 61 = .ok (.goto 5, 3) := by decide +kernel
theorem dX3_trialTogetherIn_64 : decode cX3_trialTogetherIn 64 = .ok (.bipush (-5), 2) := by decide +kernel
theorem dX3_trialTogetherIn_66 : decode cX3_trialTogetherIn 66 = .ok (.ireturn, 1) := by decide +kernel
theorem dX3_spreadWith_0 : decode cX3_spreadWith 0 = .ok (.aload_n 0, 1) := by decide +kernel
theorem dX3_spreadWith_1 : decode cX3_spreadWith 1 = .ok (.getfield 16, 3) := by decide +kernel
theorem dX3_spreadWith_4 : decode cX3_spreadWith 4 = .ok (.aload_n 0, 1) := by decide +kernel
theorem dX3_spreadWith_5 : decode cX3_spreadWith 5 = .ok (.getfield 10, 3) := by decide +kernel
theorem dX3_spreadWith_8 : decode cX3_spreadWith 8 = .ok (.invokevirtual 148, 3) := by decide +kernel
theorem dX3_spreadWith_11 : decode cX3_spreadWith 11 = .ok (.aload_n 0, 1) := by decide +kernel
theorem dX3_spreadWith_12 : decode cX3_spreadWith 12 = .ok (.getfield 16, 3) := by decide +kernel
theorem dX3_spreadWith_15 : decode cX3_spreadWith 15 = .ok (.iload_n 1, 1) := by decide +kernel
theorem dX3_spreadWith_16 : decode cX3_spreadWith 16 = .ok (.iload_n 2, 1) := by decide +kernel
theorem dX3_spreadWith_17 : decode cX3_spreadWith 17 = .ok (.iconst 1, 1) := by decide +kernel
theorem dX3_spreadWith_18 : decode cX3_spreadWith 18 = .ok (.invokevirtual 80, 3) := by decide +kernel
theorem dX3_spreadWith_21 : decode cX3_spreadWith 21 = .ok (.aload_n 0, 1) := by decide +kernel
theorem dX3_spreadWith_22 : decode cX3_spreadWith 22 = .ok (.getfield 16, 3) := by decide +kernel
theorem dX3_spreadWith_25 : decode cX3_spreadWith 25 = .ok (.bipush 100, 2) := by decide +kernel
theorem dX3_spreadWith_27 : decode cX3_spreadWith 27 = .ok (.invokevirtual 112, 3) := by decide +kernel
theorem dX3_spreadWith_30 : decode cX3_spreadWith 30 = .ok (.aload_n 0, 1) := by decide +kernel
theorem dX3_spreadWith_31 : decode cX3_spreadWith 31 = .ok (.getfield 16, 3) := by decide +kernel
theorem dX3_spreadWith_34 : decode cX3_spreadWith 34 = .ok (.invokevirtual 172, 3) := by decide +kernel
theorem dX3_spreadWith_37 : decode cX3_spreadWith 37 = .ok (.ireturn, 1) := by decide +kernel
theorem dJ6_bitCount_0f7a4_0 : decode cJ6_bitCount_0f7a4 0 = .ok (.iload_n 0, 1) := by decide +kernel
theorem dJ6_bitCount_0f7a4_1 : decode cJ6_bitCount_0f7a4 1 = .ok (.iload_n 0, 1) := by decide +kernel
theorem dJ6_bitCount_0f7a4_2 : decode cJ6_bitCount_0f7a4 2 = .ok (.iconst 1, 1) := by decide +kernel
theorem dJ6_bitCount_0f7a4_3 : decode cJ6_bitCount_0f7a4 3 = .ok (.iushr, 1) := by decide +kernel
theorem dJ6_bitCount_0f7a4_4 : decode cJ6_bitCount_0f7a4 4 = .ok (.ldc_w 265, 3) := by decide +kernel
theorem dJ6_bitCount_0f7a4_7 : decode cJ6_bitCount_0f7a4 7 = .ok (.iand, 1) := by decide +kernel
theorem dJ6_bitCount_0f7a4_8 : decode cJ6_bitCount_0f7a4 8 = .ok (.isub, 1) := by decide +kernel
theorem dJ6_bitCount_0f7a4_9 : decode cJ6_bitCount_0f7a4 9 = .ok (.istore_n 0, 1) := by decide +kernel
theorem dJ6_bitCount_0f7a4_10 : decode cJ6_bitCount_0f7a4 10 = .ok (.iload_n 0, 1) := by decide +kernel
theorem dJ6_bitCount_0f7a4_11 : decode cJ6_bitCount_0f7a4 11 = .ok (.ldc_w 266, 3) := by decide +kernel
theorem dJ6_bitCount_0f7a4_14 : decode cJ6_bitCount_0f7a4 14 = .ok (.iand, 1) := by decide +kernel
theorem dJ6_bitCount_0f7a4_15 : decode cJ6_bitCount_0f7a4 15 = .ok (.iload_n 0, 1) := by decide +kernel
theorem dJ6_bitCount_0f7a4_16 : decode cJ6_bitCount_0f7a4 16 = .ok (.iconst 2, 1) := by decide +kernel
theorem dJ6_bitCount_0f7a4_17 : decode cJ6_bitCount_0f7a4 17 = .ok (.iushr, 1) := by decide +kernel
theorem dJ6_bitCount_0f7a4_18 : decode cJ6_bitCount_0f7a4 18 = .ok (.ldc_w 266, 3) := by decide +kernel
theorem dJ6_bitCount_0f7a4_21 : decode cJ6_bitCount_0f7a4 21 = .ok (.iand, 1) := by decide +kernel
theorem dJ6_bitCount_0f7a4_22 : decode cJ6_bitCount_0f7a4 22 = .ok (.iadd, 1) := by decide +kernel
theorem dJ6_bitCount_0f7a4_23 : decode cJ6_bitCount_0f7a4 23 = .ok (.istore_n 0, 1) := by decide +kernel
theorem dJ6_bitCount_0f7a4_24 : decode cJ6_bitCount_0f7a4 24 = .ok (.iload_n 0, 1) := by decide +kernel
theorem dJ6_bitCount_0f7a4_25 : decode cJ6_bitCount_0f7a4 25 = .ok (.iload_n 0, 1) := by decide +kernel
theorem dJ6_bitCount_0f7a4_26 : decode cJ6_bitCount_0f7a4 26 = .ok (.iconst 4, 1) := by decide +kernel
theorem dJ6_bitCount_0f7a4_27 : decode cJ6_bitCount_0f7a4 27 = .ok (.iushr, 1) := by decide +kernel
theorem dJ6_bitCount_0f7a4_28 : decode cJ6_bitCount_0f7a4 28 = .ok (.iadd, 1) := by decide +kernel
theorem dJ6_bitCount_0f7a4_29 : decode cJ6_bitCount_0f7a4 29 = .ok (.ldc_w 267, 3) := by decide +kernel
theorem dJ6_bitCount_0f7a4_32 : decode cJ6_bitCount_0f7a4 32 = .ok (.iand, 1) := by decide +kernel
theorem dJ6_bitCount_0f7a4_33 : decode cJ6_bitCount_0f7a4 33 = .ok (.istore_n 0, 1) := by decide +kernel
theorem dJ6_bitCount_0f7a4_34 : decode cJ6_bitCount_0f7a4 34 = .ok (.iload_n 0, 1) := by decide +kernel
theorem dJ6_bitCount_0f7a4_35 : decode cJ6_bitCount_0f7a4 35 = .ok (.iload_n 0, 1) := by decide +kernel
theorem dJ6_bitCount_0f7a4_36 : decode cJ6_bitCount_0f7a4 36 = .ok (.bipush 8, 2) := by decide +kernel
theorem dJ6_bitCount_0f7a4_38 : decode cJ6_bitCount_0f7a4 38 = .ok (.iushr, 1) := by decide +kernel
theorem dJ6_bitCount_0f7a4_39 : decode cJ6_bitCount_0f7a4 39 = .ok (.iadd, 1) := by decide +kernel
theorem dJ6_bitCount_0f7a4_40 : decode cJ6_bitCount_0f7a4 40 = .ok (.istore_n 0, 1) := by decide +kernel
theorem dJ6_bitCount_0f7a4_41 : decode cJ6_bitCount_0f7a4 41 = .ok (.iload_n 0, 1) := by decide +kernel
theorem dJ6_bitCount_0f7a4_42 : decode cJ6_bitCount_0f7a4 42 = .ok (.iload_n 0, 1) := by decide +kernel
theorem dJ6_bitCount_0f7a4_43 : decode cJ6_bitCount_0f7a4 43 = .ok (.bipush 16, 2) := by decide +kernel
theorem dJ6_bitCount_0f7a4_45 : decode cJ6_bitCount_0f7a4 45 = .ok (.iushr, 1) := by decide +kernel
theorem dJ6_bitCount_0f7a4_46 : decode cJ6_bitCount_0f7a4 46 = .ok (.iadd, 1) := by decide +kernel
theorem dJ6_bitCount_0f7a4_47 : decode cJ6_bitCount_0f7a4 47 = .ok (.istore_n 0, 1) := by decide +kernel
theorem dJ6_bitCount_0f7a4_48 : decode cJ6_bitCount_0f7a4 48 = .ok (.iload_n 0, 1) := by decide +kernel
theorem dJ6_bitCount_0f7a4_49 : decode cJ6_bitCount_0f7a4 49 = .ok (.bipush 63, 2) := by decide +kernel
theorem dJ6_bitCount_0f7a4_51 : decode cJ6_bitCount_0f7a4 51 = .ok (.iand, 1) := by decide +kernel
theorem dJ6_bitCount_0f7a4_52 : decode cJ6_bitCount_0f7a4 52 = .ok (.ireturn, 1) := by decide +kernel
theorem dJ9_abs_0f7a4_0 : decode cJ9_abs_0f7a4 0 = .ok (.iload_n 0, 1) := by decide +kernel
theorem dJ9_abs_0f7a4_1 : decode cJ9_abs_0f7a4 1 = .ok (.ifCond .ge 8, 3) := by decide +kernel
theorem dJ9_abs_0f7a4_4 : decode cJ9_abs_0f7a4 4 = .ok (.iload_n 0, 1) := by decide +kernel
theorem dJ9_abs_0f7a4_5 : decode cJ9_abs_0f7a4 5 = .ok (.ineg, 1) := by decide +kernel
theorem dJ9_abs_0f7a4_6 : decode cJ9_abs_0f7a4 6 = .ok (.goto 4, 3) := by decide +kernel
theorem dJ9_abs_0f7a4_9 : decode cJ9_abs_0f7a4 9 = .ok (.iload_n 0, 1) := by decide +kernel
theorem dJ9_abs_0f7a4_10 : decode cJ9_abs_0f7a4 10 = .ok (.ireturn, 1) := by decide +kernel
theorem dJ9_max_7cf53_0 : decode cJ9_max_7cf53 0 = .ok (.iload_n 0, 1) := by decide +kernel
theorem dJ9_max_7cf53_1 : decode cJ9_max_7cf53 1 = .ok (.iload_n 1, 1) := by decide +kernel
theorem dJ9_max_7cf53_2 : decode cJ9_max_7cf53 2 = .ok (.if_icmp .lt 7, 3) := by decide +kernel
theorem dJ9_max_7cf53_5 : decode cJ9_max_7cf53 5 = .ok (.iload_n 0, 1) := by decide +kernel
theorem dJ9_max_7cf53_6 : decode cJ9_max_7cf53 6 = .ok (.goto 4, 3) := by decide +kernel
theorem dJ9_max_7cf53_9 : decode cJ9_max_7cf53 9 = .ok (.iload_n 1, 1) := by decide +kernel
theorem dJ9_max_7cf53_10 : decode cJ9_max_7cf53 10 = .ok (.ireturn, 1) := by decide +kernel
theorem dJ9_min_7cf53_0 : decode cJ9_min_7cf53 0 = .ok (.iload_n 0, 1) := by decide +kernel
theorem dJ9_min_7cf53_1 : decode cJ9_min_7cf53 1 = .ok (.iload_n 1, 1) := by decide +kernel
theorem dJ9_min_7cf53_2 : decode cJ9_min_7cf53 2 = .ok (.if_icmp .gt 7, 3) := by decide +kernel
theorem dJ9_min_7cf53_5 : decode cJ9_min_7cf53 5 = .ok (.iload_n 0, 1) := by decide +kernel
theorem dJ9_min_7cf53_6 : decode cJ9_min_7cf53 6 = .ok (.goto 4, 3) := by decide +kernel
theorem dJ9_min_7cf53_9 : decode cJ9_min_7cf53 9 = .ok (.iload_n 1, 1) := by decide +kernel
theorem dJ9_min_7cf53_10 : decode cJ9_min_7cf53 10 = .ok (.ireturn, 1) := by decide +kernel
end
section
theorem dL_cell_0 : decode cL_cell 0 = .ok (.iload_n 1, 1) := by decide +kernel
theorem dL_cell_1 : decode cL_cell 1 = .ok (.aload_n 0, 1) := by decide +kernel
theorem dL_cell_2 : decode cL_cell 2 = .ok (.arraylength, 1) := by decide +kernel
theorem dL_cell_3 : decode cL_cell 3 = .ok (.if_icmp .ge 9, 3) := by decide +kernel
theorem dL_cell_6 : decode cL_cell 6 = .ok (.aload_n 0, 1) := by decide +kernel
theorem dL_cell_7 : decode cL_cell 7 = .ok (.iload_n 1, 1) := by decide +kernel
theorem dL_cell_8 : decode cL_cell 8 = .ok (.iaload, 1) := by decide +kernel
theorem dL_cell_9 : decode cL_cell 9 = .ok (.goto 12, 3) := by decide +kernel
theorem dL_cell_12 : decode cL_cell 12 = .ok (.ldc 7, 2) := by decide +kernel
theorem dL_cell_14 : decode cL_cell 14 = .ok (.iload_n 1, 1) := by decide +kernel
theorem dL_cell_15 : decode cL_cell 15 = .ok (.iconst 5, 1) := by decide +kernel
theorem dL_cell_16 : decode cL_cell 16 = .ok (.iadd, 1) := by decide +kernel
theorem dL_cell_17 : decode cL_cell 17 = .ok (.imul, 1) := by decide +kernel
theorem dL_cell_18 : decode cL_cell 18 = .ok (.ldc 8, 2) := by decide +kernel
theorem dL_cell_20 : decode cL_cell 20 = .ok (.iadd, 1) := by decide +kernel
theorem dL_cell_21 : decode cL_cell 21 = .ok (.ireturn, 1) := by decide +kernel
theorem dL_low_0 : decode cL_low 0 = .ok (.iload_n 0, 1) := by decide +kernel
theorem dL_low_1 : decode cL_low 1 = .ok (.ldc 9, 2) := by decide +kernel
theorem dL_low_3 : decode cL_low 3 = .ok (.iand, 1) := by decide +kernel
theorem dL_low_4 : decode cL_low 4 = .ok (.iload_n 1, 1) := by decide +kernel
theorem dL_low_5 : decode cL_low 5 = .ok (.irem, 1) := by decide +kernel
theorem dL_low_6 : decode cL_low 6 = .ok (.ireturn, 1) := by decide +kernel
theorem dL_isOn_0 : decode cL_isOn 0 = .ok (.aload_n 0, 1) := by decide +kernel
theorem dL_isOn_1 : decode cL_isOn 1 = .ok (.iload_n 1, 1) := by decide +kernel
theorem dL_isOn_2 : decode cL_isOn 2 = .ok (.iconst 2, 1) := by decide +kernel
theorem dL_isOn_3 : decode cL_isOn 3 = .ok (.invokevirtual 10, 3) := by decide +kernel
theorem dL_isOn_6 : decode cL_isOn 6 = .ok (.iconst 1, 1) := by decide +kernel
theorem dL_isOn_7 : decode cL_isOn 7 = .ok (.if_icmp .ne 7, 3) := by decide +kernel
theorem dL_isOn_10 : decode cL_isOn 10 = .ok (.iconst 1, 1) := by decide +kernel
theorem dL_isOn_11 : decode cL_isOn 11 = .ok (.goto 4, 3) := by decide +kernel
theorem dL_isOn_14 : decode cL_isOn 14 = .ok (.iconst 0, 1) := by decide +kernel
theorem dL_isOn_15 : decode cL_isOn 15 = .ok (.ireturn, 1) := by decide +kernel
theorem dL_isThere_0 : decode cL_isThere 0 = .ok (.aload_n 0, 1) := by decide +kernel
theorem dL_isThere_1 : decode cL_isThere 1 = .ok (.iload_n 1, 1) := by decide +kernel
theorem dL_isThere_2 : decode cL_isThere 2 = .ok (.iconst 0, 1) := by decide +kernel
theorem dL_isThere_3 : decode cL_isThere 3 = .ok (.invokevirtual 10, 3) := by decide +kernel
theorem dL_isThere_6 : decode cL_isThere 6 = .ok (.ifCond .lt 7, 3) := by decide +kernel
theorem dL_isThere_9 : decode cL_isThere 9 = .ok (.iconst 1, 1) := by decide +kernel
theorem dL_isThere_10 : decode cL_isThere 10 = .ok (.goto 4, 3) := by decide +kernel
theorem dL_isThere_13 : decode cL_isThere 13 = .ok (.iconst 0, 1) := by decide +kernel
theorem dL_isThere_14 : decode cL_isThere 14 = .ok (.ireturn, 1) := by decide +kernel
theorem dL_isLamp_0 : decode cL_isLamp 0 = .ok (.aload_n 0, 1) := by decide +kernel
theorem dL_isLamp_1 : decode cL_isLamp 1 = .ok (.iload_n 1, 1) := by decide +kernel
theorem dL_isLamp_2 : decode cL_isLamp 2 = .ok (.bipush 6, 2) := by decide +kernel
theorem dL_isLamp_4 : decode cL_isLamp 4 = .ok (.invokevirtual 10, 3) := by decide +kernel
theorem dL_isLamp_7 : decode cL_isLamp 7 = .ok (.istore_n 2, 1) := by decide +kernel
theorem dL_isLamp_8 : decode cL_isLamp 8 = .ok (.aload_n 0, 1) := by decide +kernel
theorem dL_isLamp_9 : decode cL_isLamp 9 = .ok (.iload_n 1, 1) := by decide +kernel
theorem dL_isLamp_10 : decode cL_isLamp 10 = .ok (.bipush 7, 2) := by decide +kernel
theorem dL_isLamp_12 : decode cL_isLamp 12 = .ok (.invokevirtual 10, 3) := by decide +kernel
theorem dL_isLamp_15 : decode cL_isLamp 15 = .ok (.istore_n 3, 1) := by decide +kernel
theorem dL_isLamp_16 : decode cL_isLamp 16 = .ok (.aload_n 0, 1) := by decide +kernel
theorem dL_isLamp_17 : decode cL_isLamp 17 = .ok (.iload_n 1, 1) := by decide +kernel
theorem dL_isLamp_18 : decode cL_isLamp 18 = .ok (.bipush 8, 2) := by decide +kernel
theorem dL_isLamp_20 : decode cL_isLamp 20 = .ok (.invokevirtual 10, 3) := by decide +kernel
theorem dL_isLamp_23 : decode cL_isLamp 23 = .ok (.istore 4, 2) := by decide +kernel
theorem dL_isLamp_25 : decode cL_isLamp 25 = .ok (.aload_n 0, 1) := by decide +kernel
theorem dL_isLamp_26 : decode cL_isLamp 26 = .ok (.iload_n 1, 1) := by decide +kernel
theorem dL_isLamp_27 : decode cL_isLamp 27 = .ok (.invokestatic 16, 3) := by decide +kernel
theorem dL_isLamp_30 : decode cL_isLamp 30 = .ok (.istore 5, 2) := by decide +kernel
theorem dL_isLamp_32 : decode cL_isLamp 32 = .ok (.aload_n 0, 1) := by decide +kernel
theorem dL_isLamp_33 : decode cL_isLamp 33 = .ok (.iload_n 1, 1) := by decide +kernel
theorem dL_isLamp_34 : decode cL_isLamp 34 = .ok (.iconst 0, 1) := by decide +kernel
theorem dL_isLamp_35 : decode cL_isLamp 35 = .ok (.invokevirtual 10, 3) := by decide +kernel
theorem dL_isLamp_38 : decode cL_isLamp 38 = .ok (.bipush 100, 2) := by decide +kernel
theorem dL_isLamp_40 : decode cL_isLamp 40 = .ok (.aload_n 0, 1) := by decide +kernel
theorem dL_isLamp_41 : decode cL_isLamp 41 = .ok (.bipush 9, 2) := by decide +kernel
theorem dL_isLamp_43 : decode cL_isLamp 43 = .ok (.invokevirtual 22, 3) := by decide +kernel
theorem dL_isLamp_46 : decode cL_isLamp 46 = .ok (.imul, 1) := by decide +kernel
theorem dL_isLamp_47 : decode cL_isLamp 47 = .ok (.if_icmp .ge 121, 3) := by decide +kernel
theorem dL_isLamp_50 : decode cL_isLamp 50 = .ok (.aload_n 0, 1) := by decide +kernel
theorem dL_isLamp_51 : decode cL_isLamp 51 = .ok (.iload_n 1, 1) := by decide +kernel
theorem dL_isLamp_52 : decode cL_isLamp 52 = .ok (.iconst 1, 1) := by decide +kernel
theorem dL_isLamp_53 : decode cL_isLamp 53 = .ok (.invokevirtual 10, 3) := by decide +kernel
theorem dL_isLamp_56 : decode cL_isLamp 56 = .ok (.bipush 50, 2) := by decide +kernel
theorem dL_isLamp_58 : decode cL_isLamp 58 = .ok (.if_icmp .lt 110, 3) := by decide +kernel
theorem dL_isLamp_61 : decode cL_isLamp 61 = .ok (.aload_n 0, 1) := by decide +kernel
theorem dL_isLamp_62 : decode cL_isLamp 62 = .ok (.iload_n 1, 1) := by decide +kernel
theorem dL_isLamp_63 : decode cL_isLamp 63 = .ok (.iconst 1, 1) := by decide +kernel
theorem dL_isLamp_64 : decode cL_isLamp 64 = .ok (.invokevirtual 10, 3) := by decide +kernel
theorem dL_isLamp_67 : decode cL_isLamp 67 = .ok (.sipush 150, 3) := by decide +kernel
theorem dL_isLamp_70 : decode cL_isLamp 70 = .ok (.if_icmp .gt 98, 3) := by decide +kernel
theorem dL_isLamp_73 : decode cL_isLamp 73 = .ok (.aload_n 0, 1) := by decide +kernel
theorem dL_isLamp_74 : decode cL_isLamp 74 = .ok (.iload_n 1, 1) := by decide +kernel
theorem dL_isLamp_75 : decode cL_isLamp 75 = .ok (.iconst 3, 1) := by decide +kernel
theorem dL_isLamp_76 : decode cL_isLamp 76 = .ok (.invokevirtual 10, 3) := by decide +kernel
theorem dL_isLamp_79 : decode cL_isLamp 79 = .ok (.ifCond .lt 89, 3) := by decide +kernel
theorem dL_isLamp_82 : decode cL_isLamp 82 = .ok (.aload_n 0, 1) := by decide +kernel
theorem dL_isLamp_83 : decode cL_isLamp 83 = .ok (.iload_n 1, 1) := by decide +kernel
theorem dL_isLamp_84 : decode cL_isLamp 84 = .ok (.iconst 5, 1) := by decide +kernel
theorem dL_isLamp_85 : decode cL_isLamp 85 = .ok (.invokevirtual 10, 3) := by decide +kernel
theorem dL_isLamp_88 : decode cL_isLamp 88 = .ok (.aload_n 0, 1) := by decide +kernel
theorem dL_isLamp_89 : decode cL_isLamp 89 = .ok (.iconst 0, 1) := by decide +kernel
theorem dL_isLamp_90 : decode cL_isLamp 90 = .ok (.invokevirtual 22, 3) := by decide +kernel
theorem dL_isLamp_93 : decode cL_isLamp 93 = .ok (.if_icmp .gt 75, 3) := by decide +kernel
theorem dL_isLamp_96 : decode cL_isLamp 96 = .ok (.aload_n 0, 1) := by decide +kernel
theorem dL_isLamp_97 : decode cL_isLamp 97 = .ok (.iload_n 1, 1) := by decide +kernel
theorem dL_isLamp_98 : decode cL_isLamp 98 = .ok (.iconst 4, 1) := by decide +kernel
theorem dL_isLamp_99 : decode cL_isLamp 99 = .ok (.invokevirtual 10, 3) := by decide +kernel
theorem dL_isLamp_102 : decode cL_isLamp 102 = .ok (.ifCond .ne 7, 3) := by decide +kernel
theorem dL_isLamp_105 : decode cL_isLamp 105 = .ok (.iconst 1, 1) := by decide +kernel
theorem dL_isLamp_106 : decode cL_isLamp 106 = .ok (.goto 4, 3) := by decide +kernel
theorem dL_isLamp_109 : decode cL_isLamp 109 = .ok (.iconst 0, 1) := by decide +kernel
theorem dL_isLamp_110 : decode cL_isLamp 110 = .ok (.aload_n 0, 1) := by decide +kernel
theorem dL_isLamp_111 : decode cL_isLamp 111 = .ok (.iload_n 1, 1) := by decide +kernel
theorem dL_isLamp_112 : decode cL_isLamp 112 = .ok (.iconst 5, 1) := by decide +kernel
theorem dL_isLamp_113 : decode cL_isLamp 113 = .ok (.invokevirtual 10, 3) := by decide +kernel
theorem dL_isLamp_116 : decode cL_isLamp 116 = .ok (.ifCond .ne 7, 3) := by decide +kernel
theorem dL_isLamp_119 : decode cL_isLamp 119 = .ok (.iconst 1, 1) := by decide +kernel
theorem dL_isLamp_120 : decode cL_isLamp 120 = .ok (.goto 4, 3) := by decide +kernel
theorem dL_isLamp_123 : decode cL_isLamp 123 = .ok (.iconst 0, 1) := by decide +kernel
theorem dL_isLamp_124 : decode cL_isLamp 124 = .ok (.if_icmp .ne 44, 3) := by decide +kernel
theorem dL_isLamp_127 : decode cL_isLamp 127 = .ok (.iload_n 2, 1) := by decide +kernel
theorem dL_isLamp_128 : decode cL_isLamp 128 = .ok (.iload_n 1, 1) := by decide +kernel
theorem dL_isLamp_129 : decode cL_isLamp 129 = .ok (.ishr, 1) := by decide +kernel
theorem dL_isLamp_130 : decode cL_isLamp 130 = .ok (.iconst 1, 1) := by decide +kernel
theorem dL_isLamp_131 : decode cL_isLamp 131 = .ok (.iand, 1) := by decide +kernel
theorem dL_isLamp_132 : decode cL_isLamp 132 = .ok (.ifCond .ne 36, 3) := by decide +kernel
theorem dL_isLamp_135 : decode cL_isLamp 135 = .ok (.iload_n 3, 1) := by decide +kernel
theorem dL_isLamp_136 : decode cL_isLamp 136 = .ok (.ifCond .eq 7, 3) := by decide +kernel
theorem dL_isLamp_139 : decode cL_isLamp 139 = .ok (.iconst 1, 1) := by decide +kernel
theorem dL_isLamp_140 : decode cL_isLamp 140 = .ok (.goto 4, 3) := by decide +kernel
theorem dL_isLamp_143 : decode cL_isLamp 143 = .ok (.iconst 0, 1) := by decide +kernel
theorem dL_isLamp_144 : decode cL_isLamp 144 = .ok (.iload 5, 2) := by decide +kernel
theorem dL_isLamp_146 : decode cL_isLamp 146 = .ok (.if_icmp .ne 22, 3) := by decide +kernel
theorem dL_isLamp_149 : decode cL_isLamp 149 = .ok (.iload 4, 2) := by decide +kernel
theorem dL_isLamp_151 : decode cL_isLamp 151 = .ok (.ifCond .eq 7, 3) := by decide +kernel
theorem dL_isLamp_154 : decode cL_isLamp 154 = .ok (.iconst 1, 1) := by decide +kernel
theorem dL_isLamp_155 : decode cL_isLamp 155 = .ok (.goto 4, 3) := by decide +kernel
theorem dL_isLamp_158 : decode cL_isLamp 158 = .ok (.iconst 0, 1) := by decide +kernel
theorem dL_isLamp_159 : decode cL_isLamp 159 = .ok (.iload 5, 2) := by decide +kernel
theorem dL_isLamp_161 : decode cL_isLamp 161 = .ok (.if_icmp .ne 7, 3) := by decide +kernel
theorem dL_isLamp_164 : decode cL_isLamp 164 = .ok (.iconst 1, 1) := by decide +kernel
theorem dL_isLamp_165 : decode cL_isLamp 165 = .ok (.goto 4, 3) := by decide +kernel
theorem dL_isLamp_168 : decode cL_isLamp 168 = .ok (.iconst 0, 1) := by decide +kernel
theorem dL_isLamp_169 : decode cL_isLamp 169 = .ok (.istore 6, 2) := by decide +kernel
theorem dL_isLamp_171 : decode cL_isLamp 171 = .ok (.iconst 0, 1) := by decide +kernel
theorem dL_isLamp_172 : decode cL_isLamp 172 = .ok (.istore 7, 2) := by decide +kernel
theorem dL_isLamp_174 : decode cL_isLamp 174 = .ok (.iload 7, 2) := by decide +kernel
theorem dL_isLamp_176 : decode cL_isLamp 176 = .ok (.bipush 16, 2) := by decide +kernel
theorem dL_isLamp_178 : decode cL_isLamp 178 = .ok (.if_icmp .ge 201, 3) := by decide +kernel
theorem dL_isLamp_181 : decode cL_isLamp 181 = .ok (.iload 6, 2) := by decide +kernel
theorem dL_isLamp_183 : decode cL_isLamp 183 = .ok (.ifCond .eq 196, 3) := by decide +kernel
theorem dL_isLamp_186 : decode cL_isLamp 186 = .ok (.iload_n 2, 1) := by decide +kernel
theorem dL_isLamp_187 : decode cL_isLamp 187 = .ok (.iload 7, 2) := by decide +kernel
theorem dL_isLamp_189 : decode cL_isLamp 189 = .ok (.ishr, 1) := by decide +kernel
theorem dL_isLamp_190 : decode cL_isLamp 190 = .ok (.iconst 1, 1) := by decide +kernel
theorem dL_isLamp_191 : decode cL_isLamp 191 = .ok (.iand, 1) := by decide +kernel
theorem dL_isLamp_192 : decode cL_isLamp 192 = .ok (.iconst 1, 1) := by decide +kernel
theorem dL_isLamp_193 : decode cL_isLamp 193 = .ok (.if_icmp .ne 7, 3) := by decide +kernel
theorem dL_isLamp_196 : decode cL_isLamp 196 = .ok (.iconst 1, 1) := by decide +kernel
theorem dL_isLamp_197 : decode cL_isLamp 197 = .ok (.goto 4, 3) := by decide +kernel
theorem dL_isLamp_200 : decode cL_isLamp 200 = .ok (.iconst 0, 1) := by decide +kernel
theorem dL_isLamp_201 : decode cL_isLamp 201 = .ok (.istore 8, 2) := by decide +kernel
theorem dL_isLamp_203 : decode cL_isLamp 203 = .ok (.iload_n 3, 1) := by decide +kernel
theorem dL_isLamp_204 : decode cL_isLamp 204 = .ok (.iload 7, 2) := by decide +kernel
theorem dL_isLamp_206 : decode cL_isLamp 206 = .ok (.ishr, 1) := by decide +kernel
theorem dL_isLamp_207 : decode cL_isLamp 207 = .ok (.iconst 1, 1) := by decide +kernel
theorem dL_isLamp_208 : decode cL_isLamp 208 = .ok (.iand, 1) := by decide +kernel
theorem dL_isLamp_209 : decode cL_isLamp 209 = .ok (.iconst 1, 1) := by decide +kernel
theorem dL_isLamp_210 : decode cL_isLamp 210 = .ok (.if_icmp .ne 7, 3) := by decide +kernel
theorem dL_isLamp_213 : decode cL_isLamp 213 = .ok (.iconst 1, 1) := by decide +kernel
theorem dL_isLamp_214 : decode cL_isLamp 214 = .ok (.goto 4, 3) := by decide +kernel
theorem dL_isLamp_217 : decode cL_isLamp 217 = .ok (.iconst 0, 1) := by decide +kernel
theorem dL_isLamp_218 : decode cL_isLamp 218 = .ok (.istore 9, 2) := by decide +kernel
theorem dL_isLamp_220 : decode cL_isLamp 220 = .ok (.iload 8, 2) := by decide +kernel
theorem dL_isLamp_222 : decode cL_isLamp 222 = .ok (.ifCond .eq 28, 3) := by decide +kernel
theorem dL_isLamp_225 : decode cL_isLamp 225 = .ok (.aload_n 0, 1) := by decide +kernel
theorem dL_isLamp_226 : decode cL_isLamp 226 = .ok (.iload 7, 2) := by decide +kernel
theorem dL_isLamp_228 : decode cL_isLamp 228 = .ok (.invokestatic 26, 3) := by decide +kernel
theorem dL_isLamp_231 : decode cL_isLamp 231 = .ok (.ifCond .eq 23, 3) := by decide +kernel
theorem dL_isLamp_234 : decode cL_isLamp 234 = .ok (.aload_n 0, 1) := by decide +kernel
theorem dL_isLamp_235 : decode cL_isLamp 235 = .ok (.iload 7, 2) := by decide +kernel
theorem dL_isLamp_237 : decode cL_isLamp 237 = .ok (.bipush 6, 2) := by decide +kernel
theorem dL_isLamp_239 : decode cL_isLamp 239 = .ok (.invokevirtual 10, 3) := by decide +kernel
theorem dL_isLamp_242 : decode cL_isLamp 242 = .ok (.iload_n 1, 1) := by decide +kernel
theorem dL_isLamp_243 : decode cL_isLamp 243 = .ok (.ishr, 1) := by decide +kernel
theorem dL_isLamp_244 : decode cL_isLamp 244 = .ok (.iconst 1, 1) := by decide +kernel
theorem dL_isLamp_245 : decode cL_isLamp 245 = .ok (.iand, 1) := by decide +kernel
theorem dL_isLamp_246 : decode cL_isLamp 246 = .ok (.iconst 1, 1) := by decide +kernel
theorem dL_isLamp_247 : decode cL_isLamp 247 = .ok (.if_icmp .ne 7, 3) := by decide +kernel
theorem dL_isLamp_250 : decode cL_isLamp 250 = .ok (.iconst 1, 1) := by decide +kernel
theorem dL_isLamp_251 : decode cL_isLamp 251 = .ok (.goto 4, 3) := by decide +kernel
theorem dL_isLamp_254 : decode cL_isLamp 254 = .ok (.iconst 0, 1) := by decide +kernel
theorem dL_isLamp_255 : decode cL_isLamp 255 = .ok (.istore 6, 2) := by decide +kernel
theorem dL_isLamp_257 : decode cL_isLamp 257 = .ok (.iload 6, 2) := by decide +kernel
theorem dL_isLamp_259 : decode cL_isLamp 259 = .ok (.ifCond .eq 111, 3) := by decide +kernel
theorem dL_isLamp_262 : decode cL_isLamp 262 = .ok (.iload 9, 2) := by decide +kernel
theorem dL_isLamp_264 : decode cL_isLamp 264 = .ok (.ifCond .eq 24, 3) := by decide +kernel
theorem dL_isLamp_267 : decode cL_isLamp 267 = .ok (.aload_n 0, 1) := by decide +kernel
theorem dL_isLamp_268 : decode cL_isLamp 268 = .ok (.iload 7, 2) := by decide +kernel
theorem dL_isLamp_270 : decode cL_isLamp 270 = .ok (.invokestatic 16, 3) := by decide +kernel
theorem dL_isLamp_273 : decode cL_isLamp 273 = .ok (.ifCond .eq 97, 3) := by decide +kernel
theorem dL_isLamp_276 : decode cL_isLamp 276 = .ok (.aload_n 0, 1) := by decide +kernel
theorem dL_isLamp_277 : decode cL_isLamp 277 = .ok (.iload 7, 2) := by decide +kernel
theorem dL_isLamp_279 : decode cL_isLamp 279 = .ok (.bipush 7, 2) := by decide +kernel
theorem dL_isLamp_281 : decode cL_isLamp 281 = .ok (.invokevirtual 10, 3) := by decide +kernel
theorem dL_isLamp_284 : decode cL_isLamp 284 = .ok (.iload_n 3, 1) := by decide +kernel
theorem dL_isLamp_285 : decode cL_isLamp 285 = .ok (.if_icmp .ne 85, 3) := by decide +kernel
theorem dL_isLamp_288 : decode cL_isLamp 288 = .ok (.iload 8, 2) := by decide +kernel
theorem dL_isLamp_290 : decode cL_isLamp 290 = .ok (.ifCond .eq 22, 3) := by decide +kernel
theorem dL_isLamp_293 : decode cL_isLamp 293 = .ok (.iload 5, 2) := by decide +kernel
theorem dL_isLamp_295 : decode cL_isLamp 295 = .ok (.ifCond .eq 17, 3) := by decide +kernel
theorem dL_isLamp_298 : decode cL_isLamp 298 = .ok (.aload_n 0, 1) := by decide +kernel
theorem dL_isLamp_299 : decode cL_isLamp 299 = .ok (.iload 7, 2) := by decide +kernel
theorem dL_isLamp_301 : decode cL_isLamp 301 = .ok (.invokestatic 16, 3) := by decide +kernel
theorem dL_isLamp_304 : decode cL_isLamp 304 = .ok (.ifCond .eq 8, 3) := by decide +kernel
theorem dL_isLamp_307 : decode cL_isLamp 307 = .ok (.iload 9, 2) := by decide +kernel
theorem dL_isLamp_309 : decode cL_isLamp 309 = .ok (.ifCond .eq 61, 3) := by decide +kernel
theorem dL_isLamp_312 : decode cL_isLamp 312 = .ok (.iload 4, 2) := by decide +kernel
theorem dL_isLamp_314 : decode cL_isLamp 314 = .ok (.iload 7, 2) := by decide +kernel
theorem dL_isLamp_316 : decode cL_isLamp 316 = .ok (.ishr, 1) := by decide +kernel
theorem dL_isLamp_317 : decode cL_isLamp 317 = .ok (.iconst 1, 1) := by decide +kernel
theorem dL_isLamp_318 : decode cL_isLamp 318 = .ok (.iand, 1) := by decide +kernel
theorem dL_isLamp_319 : decode cL_isLamp 319 = .ok (.iconst 1, 1) := by decide +kernel
theorem dL_isLamp_320 : decode cL_isLamp 320 = .ok (.if_icmp .ne 7, 3) := by decide +kernel
theorem dL_isLamp_323 : decode cL_isLamp 323 = .ok (.iconst 1, 1) := by decide +kernel
theorem dL_isLamp_324 : decode cL_isLamp 324 = .ok (.goto 4, 3) := by decide +kernel
theorem dL_isLamp_327 : decode cL_isLamp 327 = .ok (.iconst 0, 1) := by decide +kernel
theorem dL_isLamp_328 : decode cL_isLamp 328 = .ok (.iload 5, 2) := by decide +kernel
theorem dL_isLamp_330 : decode cL_isLamp 330 = .ok (.ifCond .eq 32, 3) := by decide +kernel
theorem dL_isLamp_333 : decode cL_isLamp 333 = .ok (.aload_n 0, 1) := by decide +kernel
theorem dL_isLamp_334 : decode cL_isLamp 334 = .ok (.iload 7, 2) := by decide +kernel
theorem dL_isLamp_336 : decode cL_isLamp 336 = .ok (.invokestatic 16, 3) := by decide +kernel
theorem dL_isLamp_339 : decode cL_isLamp 339 = .ok (.ifCond .eq 23, 3) := by decide +kernel
theorem dL_isLamp_342 : decode cL_isLamp 342 = .ok (.aload_n 0, 1) := by decide +kernel
theorem dL_isLamp_343 : decode cL_isLamp 343 = .ok (.iload 7, 2) := by decide +kernel
theorem dL_isLamp_345 : decode cL_isLamp 345 = .ok (.iconst 0, 1) := by decide +kernel
theorem dL_isLamp_346 : decode cL_isLamp 346 = .ok (.invokevirtual 10, 3) := by decide +kernel
theorem dL_isLamp_349 : decode cL_isLamp 349 = .ok (.aload_n 0, 1) := by decide +kernel
theorem dL_isLamp_350 : decode cL_isLamp 350 = .ok (.iload_n 1, 1) := by decide +kernel
theorem dL_isLamp_351 : decode cL_isLamp 351 = .ok (.iconst 0, 1) := by decide +kernel
theorem dL_isLamp_352 : decode cL_isLamp 352 = .ok (.invokevirtual 10, 3) := by decide +kernel
theorem dL_isLamp_355 : decode cL_isLamp 355 = .ok (.if_icmp .ne 7, 3) := by decide +kernel
theorem dL_isLamp_358 : decode cL_isLamp 358 = .ok (.iconst 1, 1) := by decide +kernel
theorem dL_isLamp_359 : decode cL_isLamp 359 = .ok (.goto 4, 3) := by decide +kernel
theorem dL_isLamp_362 : decode cL_isLamp 362 = .ok (.iconst 0, 1) := by decide +kernel
theorem dL_isLamp_363 : decode cL_isLamp 363 = .ok (.if_icmp .ne 7, 3) := by decide +kernel
theorem dL_isLamp_366 : decode cL_isLamp 366 = .ok (.iconst 1, 1) := by decide +kernel
theorem dL_isLamp_367 : decode cL_isLamp 367 = .ok (.goto 4, 3) := by decide +kernel
theorem dL_isLamp_370 : decode cL_isLamp 370 = .ok (.iconst 0, 1) := by decide +kernel
theorem dL_isLamp_371 : decode cL_isLamp 371 = .ok (.istore 6, 2) := by decide +kernel
theorem dL_isLamp_373 : decode cL_isLamp 373 = .ok (.iinc 7 1, 3) := by decide +kernel
theorem dL_isLamp_376 : decode cL_isLamp 376 = .ok (.goto (-202), 3) := by decide +kernel
theorem dL_isLamp_379 : decode cL_isLamp 379 = .ok (.iload 6, 2) := by decide +kernel
theorem dL_isLamp_381 : decode cL_isLamp 381 = .ok (.ireturn, 1) := by decide +kernel
theorem dL_holds_0 : decode cL_holds 0 = .ok (.iconst 0, 1) := by decide +kernel
theorem dL_holds_1 : decode cL_holds 1 = .ok (.istore_n 1, 1) := by decide +kernel
theorem dL_holds_2 : decode cL_holds 2 = .ok (.iconst 0, 1) := by decide +kernel
theorem dL_holds_3 : decode cL_holds 3 = .ok (.istore_n 2, 1) := by decide +kernel
theorem dL_holds_4 : decode cL_holds 4 = .ok (.iconst 0, 1) := by decide +kernel
theorem dL_holds_5 : decode cL_holds 5 = .ok (.istore_n 3, 1) := by decide +kernel
theorem dL_holds_6 : decode cL_holds 6 = .ok (.iconst 0, 1) := by decide +kernel
theorem dL_holds_7 : decode cL_holds 7 = .ok (.istore 4, 2) := by decide +kernel
theorem dL_holds_9 : decode cL_holds 9 = .ok (.iconst 0, 1) := by decide +kernel
theorem dL_holds_10 : decode cL_holds 10 = .ok (.istore 5, 2) := by decide +kernel
theorem dL_holds_12 : decode cL_holds 12 = .ok (.bipush (-5), 2) := by decide +kernel
theorem dL_holds_14 : decode cL_holds 14 = .ok (.istore 6, 2) := by decide +kernel
theorem dL_holds_16 : decode cL_holds 16 = .ok (.iconst 0, 1) := by decide +kernel
theorem dL_holds_17 : decode cL_holds 17 = .ok (.istore 7, 2) := by decide +kernel
theorem dL_holds_19 : decode cL_holds 19 = .ok (.iload 7, 2) := by decide +kernel
theorem dL_holds_21 : decode cL_holds 21 = .ok (.bipush 16, 2) := by decide +kernel
theorem dL_holds_23 : decode cL_holds 23 = .ok (.if_icmp .ge 202, 3) := by decide +kernel
theorem dL_holds_26 : decode cL_holds 26 = .ok (.aload_n 0, 1) := by decide +kernel
theorem dL_holds_27 : decode cL_holds 27 = .ok (.iload 7, 2) := by decide +kernel
theorem dL_holds_29 : decode cL_holds 29 = .ok (.invokestatic 26, 3) := by decide +kernel
theorem dL_holds_32 : decode cL_holds 32 = .ok (.ifCond .eq 187, 3) := by decide +kernel
theorem dL_holds_35 : decode cL_holds 35 = .ok (.iinc 1 1, 3) := by decide +kernel
theorem dL_holds_38 : decode cL_holds 38 = .ok (.iload_n 2, 1) := by decide +kernel
theorem dL_holds_39 : decode cL_holds 39 = .ok (.aload_n 0, 1) := by decide +kernel
theorem dL_holds_40 : decode cL_holds 40 = .ok (.iload 7, 2) := by decide +kernel
theorem dL_holds_42 : decode cL_holds 42 = .ok (.invokestatic 16, 3) := by decide +kernel
theorem dL_holds_45 : decode cL_holds 45 = .ok (.ifCond .eq 7, 3) := by decide +kernel
theorem dL_holds_48 : decode cL_holds 48 = .ok (.iconst 1, 1) := by decide +kernel
theorem dL_holds_49 : decode cL_holds 49 = .ok (.goto 4, 3) := by decide +kernel
theorem dL_holds_52 : decode cL_holds 52 = .ok (.iconst 0, 1) := by decide +kernel
theorem dL_holds_53 : decode cL_holds 53 = .ok (.iadd, 1) := by decide +kernel
theorem dL_holds_54 : decode cL_holds 54 = .ok (.istore_n 2, 1) := by decide +kernel
theorem dL_holds_55 : decode cL_holds 55 = .ok (.iload 4, 2) := by decide +kernel
theorem dL_holds_57 : decode cL_holds 57 = .ok (.aload_n 0, 1) := by decide +kernel
theorem dL_holds_58 : decode cL_holds 58 = .ok (.iload 7, 2) := by decide +kernel
theorem dL_holds_60 : decode cL_holds 60 = .ok (.iconst 4, 1) := by decide +kernel
theorem dL_holds_61 : decode cL_holds 61 = .ok (.invokevirtual 10, 3) := by decide +kernel
theorem dL_holds_64 : decode cL_holds 64 = .ok (.iadd, 1) := by decide +kernel
theorem dL_holds_65 : decode cL_holds 65 = .ok (.istore 4, 2) := by decide +kernel
theorem dL_holds_67 : decode cL_holds 67 = .ok (.iload 5, 2) := by decide +kernel
theorem dL_holds_69 : decode cL_holds 69 = .ok (.aload_n 0, 1) := by decide +kernel
theorem dL_holds_70 : decode cL_holds 70 = .ok (.iload 7, 2) := by decide +kernel
theorem dL_holds_72 : decode cL_holds 72 = .ok (.bipush 9, 2) := by decide +kernel
theorem dL_holds_74 : decode cL_holds 74 = .ok (.invokevirtual 10, 3) := by decide +kernel
theorem dL_holds_77 : decode cL_holds 77 = .ok (.iadd, 1) := by decide +kernel
theorem dL_holds_78 : decode cL_holds 78 = .ok (.istore 5, 2) := by decide +kernel
theorem dL_holds_80 : decode cL_holds 80 = .ok (.iconst 0, 1) := by decide +kernel
theorem dL_holds_81 : decode cL_holds 81 = .ok (.istore 8, 2) := by decide +kernel
theorem dL_holds_83 : decode cL_holds 83 = .ok (.iload 8, 2) := by decide +kernel
theorem dL_holds_85 : decode cL_holds 85 = .ok (.bipush 16, 2) := by decide +kernel
theorem dL_holds_87 : decode cL_holds 87 = .ok (.if_icmp .ge 121, 3) := by decide +kernel
theorem dL_holds_90 : decode cL_holds 90 = .ok (.iload_n 3, 1) := by decide +kernel
theorem dL_holds_91 : decode cL_holds 91 = .ok (.aload_n 0, 1) := by decide +kernel
theorem dL_holds_92 : decode cL_holds 92 = .ok (.iload 7, 2) := by decide +kernel
theorem dL_holds_94 : decode cL_holds 94 = .ok (.bipush 6, 2) := by decide +kernel
theorem dL_holds_96 : decode cL_holds 96 = .ok (.invokevirtual 10, 3) := by decide +kernel
theorem dL_holds_99 : decode cL_holds 99 = .ok (.iload 8, 2) := by decide +kernel
theorem dL_holds_101 : decode cL_holds 101 = .ok (.ishr, 1) := by decide +kernel
theorem dL_holds_102 : decode cL_holds 102 = .ok (.iconst 1, 1) := by decide +kernel
theorem dL_holds_103 : decode cL_holds 103 = .ok (.iand, 1) := by decide +kernel
theorem dL_holds_104 : decode cL_holds 104 = .ok (.iadd, 1) := by decide +kernel
theorem dL_holds_105 : decode cL_holds 105 = .ok (.istore_n 3, 1) := by decide +kernel
theorem dL_holds_106 : decode cL_holds 106 = .ok (.aload_n 0, 1) := by decide +kernel
theorem dL_holds_107 : decode cL_holds 107 = .ok (.iload 7, 2) := by decide +kernel
theorem dL_holds_109 : decode cL_holds 109 = .ok (.iload 8, 2) := by decide +kernel
theorem dL_holds_111 : decode cL_holds 111 = .ok (.invokevirtual 29, 3) := by decide +kernel
theorem dL_holds_114 : decode cL_holds 114 = .ok (.istore 9, 2) := by decide +kernel
theorem dL_holds_116 : decode cL_holds 116 = .ok (.aload_n 0, 1) := by decide +kernel
theorem dL_holds_117 : decode cL_holds 117 = .ok (.iload 8, 2) := by decide +kernel
theorem dL_holds_119 : decode cL_holds 119 = .ok (.invokestatic 26, 3) := by decide +kernel
theorem dL_holds_122 : decode cL_holds 122 = .ok (.ifCond .eq 38, 3) := by decide +kernel
theorem dL_holds_125 : decode cL_holds 125 = .ok (.iload 9, 2) := by decide +kernel
theorem dL_holds_127 : decode cL_holds 127 = .ok (.aload_n 0, 1) := by decide +kernel
theorem dL_holds_128 : decode cL_holds 128 = .ok (.iload 8, 2) := by decide +kernel
theorem dL_holds_130 : decode cL_holds 130 = .ok (.iload 7, 2) := by decide +kernel
theorem dL_holds_132 : decode cL_holds 132 = .ok (.invokevirtual 29, 3) := by decide +kernel
theorem dL_holds_135 : decode cL_holds 135 = .ok (.if_icmp .ne 31, 3) := by decide +kernel
theorem dL_holds_138 : decode cL_holds 138 = .ok (.iload 9, 2) := by decide +kernel
theorem dL_holds_140 : decode cL_holds 140 = .ok (.ifCond .lt 26, 3) := by decide +kernel
theorem dL_holds_143 : decode cL_holds 143 = .ok (.iload 9, 2) := by decide +kernel
theorem dL_holds_145 : decode cL_holds 145 = .ok (.bipush 50, 2) := by decide +kernel
theorem dL_holds_147 : decode cL_holds 147 = .ok (.aload_n 0, 1) := by decide +kernel
theorem dL_holds_148 : decode cL_holds 148 = .ok (.bipush 9, 2) := by decide +kernel
theorem dL_holds_150 : decode cL_holds 150 = .ok (.invokevirtual 22, 3) := by decide +kernel
theorem dL_holds_153 : decode cL_holds 153 = .ok (.imul, 1) := by decide +kernel
theorem dL_holds_154 : decode cL_holds 154 = .ok (.if_icmp .le 14, 3) := by decide +kernel
theorem dL_holds_157 : decode cL_holds 157 = .ok (.goto 9, 3) := by decide +kernel
theorem dL_holds_160 : decode cL_holds 160 = .ok (.iload 9, 2) := by decide +kernel
theorem dL_holds_162 : decode cL_holds 162 = .ok (.iconst (-1), 1) := by decide +kernel
theorem dL_holds_163 : decode cL_holds 163 = .ok (.if_icmp .eq 5, 3) := by decide +kernel
theorem dL_holds_166 : decode cL_holds 166 = .ok (.iconst 0, 1) := by decide +kernel
theorem dL_holds_167 : decode cL_holds 167 = .ok (.ireturn, 1) := by decide +kernel
theorem dL_holds_168 : decode cL_holds 168 = .ok (.aload_n 0, 1) := by decide +kernel
theorem dL_holds_169 : decode cL_holds 169 = .ok (.iload 7, 2) := by decide +kernel
theorem dL_holds_171 : decode cL_holds 171 = .ok (.invokestatic 16, 3) := by decide +kernel
theorem dL_holds_174 : decode cL_holds 174 = .ok (.ifCond .eq 24, 3) := by decide +kernel
theorem dL_holds_177 : decode cL_holds 177 = .ok (.aload_n 0, 1) := by decide +kernel
theorem dL_holds_178 : decode cL_holds 178 = .ok (.iload 8, 2) := by decide +kernel
theorem dL_holds_180 : decode cL_holds 180 = .ok (.invokestatic 16, 3) := by decide +kernel
theorem dL_holds_183 : decode cL_holds 183 = .ok (.ifCond .eq 15, 3) := by decide +kernel
theorem dL_holds_186 : decode cL_holds 186 = .ok (.iload 9, 2) := by decide +kernel
theorem dL_holds_188 : decode cL_holds 188 = .ok (.iload 6, 2) := by decide +kernel
theorem dL_holds_190 : decode cL_holds 190 = .ok (.if_icmp .le 8, 3) := by decide +kernel
theorem dL_holds_193 : decode cL_holds 193 = .ok (.iload 9, 2) := by decide +kernel
theorem dL_holds_195 : decode cL_holds 195 = .ok (.goto 5, 3) := by decide +kernel
theorem dL_holds_198 : decode cL_holds 198 = .ok (.iload 6, 2) := by decide +kernel
theorem dL_holds_200 : decode cL_holds 200 = .ok (.istore 6, 2) := by decide +kernel
theorem dL_holds_202 : decode cL_holds 202 = .ok (.iinc 8 1, 3) := by decide +kernel
theorem dL_holds_205 : decode cL_holds 205 = .ok (.goto (-122), 3) := by decide +kernel
theorem dL_holds_208 : decode cL_holds 208 = .ok (.aload_n 0, 1) := by decide +kernel
theorem dL_holds_209 : decode cL_holds 209 = .ok (.iload 7, 2) := by decide +kernel
theorem dL_holds_211 : decode cL_holds 211 = .ok (.invokestatic 32, 3) := by decide +kernel
theorem dL_holds_214 : decode cL_holds 214 = .ok (.ifCond .ne 5, 3) := by decide +kernel
theorem dL_holds_217 : decode cL_holds 217 = .ok (.iconst 0, 1) := by decide +kernel
theorem dL_holds_218 : decode cL_holds 218 = .ok (.ireturn, 1) := by decide +kernel
theorem dL_holds_219 : decode cL_holds 219 = .ok (.iinc 7 1, 3) := by decide +kernel
theorem dL_holds_222 : decode cL_holds 222 = .ok (.goto (-203), 3) := by decide +kernel
theorem dL_holds_225 : decode cL_holds 225 = .ok (.aload_n 0, 1) := by decide +kernel
theorem dL_holds_226 : decode cL_holds 226 = .ok (.iconst 1, 1) := by decide +kernel
theorem dL_holds_227 : decode cL_holds 227 = .ok (.invokevirtual 22, 3) := by decide +kernel
theorem dL_holds_230 : decode cL_holds 230 = .ok (.iload_n 1, 1) := by decide +kernel
theorem dL_holds_231 : decode cL_holds 231 = .ok (.if_icmp .ne 157, 3) := by decide +kernel
theorem dL_holds_234 : decode cL_holds 234 = .ok (.aload_n 0, 1) := by decide +kernel
theorem dL_holds_235 : decode cL_holds 235 = .ok (.iconst 2, 1) := by decide +kernel
theorem dL_holds_236 : decode cL_holds 236 = .ok (.invokevirtual 22, 3) := by decide +kernel
theorem dL_holds_239 : decode cL_holds 239 = .ok (.iload_n 2, 1) := by decide +kernel
theorem dL_holds_240 : decode cL_holds 240 = .ok (.if_icmp .ne 148, 3) := by decide +kernel
theorem dL_holds_243 : decode cL_holds 243 = .ok (.iconst 2, 1) := by decide +kernel
theorem dL_holds_244 : decode cL_holds 244 = .ok (.aload_n 0, 1) := by decide +kernel
theorem dL_holds_245 : decode cL_holds 245 = .ok (.iconst 3, 1) := by decide +kernel
theorem dL_holds_246 : decode cL_holds 246 = .ok (.invokevirtual 22, 3) := by decide +kernel
theorem dL_holds_249 : decode cL_holds 249 = .ok (.imul, 1) := by decide +kernel
theorem dL_holds_250 : decode cL_holds 250 = .ok (.iload_n 3, 1) := by decide +kernel
theorem dL_holds_251 : decode cL_holds 251 = .ok (.if_icmp .ne 137, 3) := by decide +kernel
theorem dL_holds_254 : decode cL_holds 254 = .ok (.aload_n 0, 1) := by decide +kernel
theorem dL_holds_255 : decode cL_holds 255 = .ok (.iconst 4, 1) := by decide +kernel
theorem dL_holds_256 : decode cL_holds 256 = .ok (.invokevirtual 22, 3) := by decide +kernel
theorem dL_holds_259 : decode cL_holds 259 = .ok (.iload_n 2, 1) := by decide +kernel
theorem dL_holds_260 : decode cL_holds 260 = .ok (.if_icmp .gt 128, 3) := by decide +kernel
theorem dL_holds_263 : decode cL_holds 263 = .ok (.aload_n 0, 1) := by decide +kernel
theorem dL_holds_264 : decode cL_holds 264 = .ok (.iconst 4, 1) := by decide +kernel
theorem dL_holds_265 : decode cL_holds 265 = .ok (.invokevirtual 22, 3) := by decide +kernel
theorem dL_holds_268 : decode cL_holds 268 = .ok (.ifCond .le 7, 3) := by decide +kernel
theorem dL_holds_271 : decode cL_holds 271 = .ok (.iconst 1, 1) := by decide +kernel
theorem dL_holds_272 : decode cL_holds 272 = .ok (.goto 4, 3) := by decide +kernel
theorem dL_holds_275 : decode cL_holds 275 = .ok (.iconst 0, 1) := by decide +kernel
theorem dL_holds_276 : decode cL_holds 276 = .ok (.iload_n 2, 1) := by decide +kernel
theorem dL_holds_277 : decode cL_holds 277 = .ok (.ifCond .le 7, 3) := by decide +kernel
theorem dL_holds_280 : decode cL_holds 280 = .ok (.iconst 1, 1) := by decide +kernel
theorem dL_holds_281 : decode cL_holds 281 = .ok (.goto 4, 3) := by decide +kernel
theorem dL_holds_284 : decode cL_holds 284 = .ok (.iconst 0, 1) := by decide +kernel
theorem dL_holds_285 : decode cL_holds 285 = .ok (.if_icmp .ne 103, 3) := by decide +kernel
theorem dL_holds_288 : decode cL_holds 288 = .ok (.aload_n 0, 1) := by decide +kernel
theorem dL_holds_289 : decode cL_holds 289 = .ok (.iconst 5, 1) := by decide +kernel
theorem dL_holds_290 : decode cL_holds 290 = .ok (.invokevirtual 22, 3) := by decide +kernel
theorem dL_holds_293 : decode cL_holds 293 = .ok (.iload 4, 2) := by decide +kernel
theorem dL_holds_295 : decode cL_holds 295 = .ok (.if_icmp .lt 93, 3) := by decide +kernel
theorem dL_holds_298 : decode cL_holds 298 = .ok (.aload_n 0, 1) := by decide +kernel
theorem dL_holds_299 : decode cL_holds 299 = .ok (.bipush 6, 2) := by decide +kernel
theorem dL_holds_301 : decode cL_holds 301 = .ok (.invokevirtual 22, 3) := by decide +kernel
theorem dL_holds_304 : decode cL_holds 304 = .ok (.iload 5, 2) := by decide +kernel
theorem dL_holds_306 : decode cL_holds 306 = .ok (.if_icmp .lt 82, 3) := by decide +kernel
theorem dL_holds_309 : decode cL_holds 309 = .ok (.aload_n 0, 1) := by decide +kernel
theorem dL_holds_310 : decode cL_holds 310 = .ok (.bipush 7, 2) := by decide +kernel
theorem dL_holds_312 : decode cL_holds 312 = .ok (.invokevirtual 22, 3) := by decide +kernel
theorem dL_holds_315 : decode cL_holds 315 = .ok (.aload_n 0, 1) := by decide +kernel
theorem dL_holds_316 : decode cL_holds 316 = .ok (.iconst 0, 1) := by decide +kernel
theorem dL_holds_317 : decode cL_holds 317 = .ok (.invokevirtual 22, 3) := by decide +kernel
theorem dL_holds_320 : decode cL_holds 320 = .ok (.if_icmp .gt 68, 3) := by decide +kernel
theorem dL_holds_323 : decode cL_holds 323 = .ok (.aload_n 0, 1) := by decide +kernel
theorem dL_holds_324 : decode cL_holds 324 = .ok (.bipush 8, 2) := by decide +kernel
theorem dL_holds_326 : decode cL_holds 326 = .ok (.invokevirtual 22, 3) := by decide +kernel
theorem dL_holds_329 : decode cL_holds 329 = .ok (.bipush 16, 2) := by decide +kernel
theorem dL_holds_331 : decode cL_holds 331 = .ok (.if_icmp .gt 57, 3) := by decide +kernel
theorem dL_holds_334 : decode cL_holds 334 = .ok (.aload_n 0, 1) := by decide +kernel
theorem dL_holds_335 : decode cL_holds 335 = .ok (.bipush 8, 2) := by decide +kernel
theorem dL_holds_337 : decode cL_holds 337 = .ok (.invokevirtual 22, 3) := by decide +kernel
theorem dL_holds_340 : decode cL_holds 340 = .ok (.iconst 1, 1) := by decide +kernel
theorem dL_holds_341 : decode cL_holds 341 = .ok (.if_icmp .eq 47, 3) := by decide +kernel
theorem dL_holds_344 : decode cL_holds 344 = .ok (.aload_n 0, 1) := by decide +kernel
theorem dL_holds_345 : decode cL_holds 345 = .ok (.bipush 8, 2) := by decide +kernel
theorem dL_holds_347 : decode cL_holds 347 = .ok (.invokevirtual 22, 3) := by decide +kernel
theorem dL_holds_350 : decode cL_holds 350 = .ok (.ifCond .ne 7, 3) := by decide +kernel
theorem dL_holds_353 : decode cL_holds 353 = .ok (.iconst 1, 1) := by decide +kernel
theorem dL_holds_354 : decode cL_holds 354 = .ok (.goto 4, 3) := by decide +kernel
theorem dL_holds_357 : decode cL_holds 357 = .ok (.iconst 0, 1) := by decide +kernel
theorem dL_holds_358 : decode cL_holds 358 = .ok (.aload_n 0, 1) := by decide +kernel
theorem dL_holds_359 : decode cL_holds 359 = .ok (.bipush 7, 2) := by decide +kernel
theorem dL_holds_361 : decode cL_holds 361 = .ok (.invokevirtual 22, 3) := by decide +kernel
theorem dL_holds_364 : decode cL_holds 364 = .ok (.ifCond .ne 7, 3) := by decide +kernel
theorem dL_holds_367 : decode cL_holds 367 = .ok (.iconst 1, 1) := by decide +kernel
theorem dL_holds_368 : decode cL_holds 368 = .ok (.goto 4, 3) := by decide +kernel
theorem dL_holds_371 : decode cL_holds 371 = .ok (.iconst 0, 1) := by decide +kernel
theorem dL_holds_372 : decode cL_holds 372 = .ok (.if_icmp .ne 16, 3) := by decide +kernel
theorem dL_holds_375 : decode cL_holds 375 = .ok (.aload_n 0, 1) := by decide +kernel
theorem dL_holds_376 : decode cL_holds 376 = .ok (.invokevirtual 35, 3) := by decide +kernel
theorem dL_holds_379 : decode cL_holds 379 = .ok (.iload 6, 2) := by decide +kernel
theorem dL_holds_381 : decode cL_holds 381 = .ok (.if_icmp .ne 7, 3) := by decide +kernel
theorem dL_holds_384 : decode cL_holds 384 = .ok (.iconst 1, 1) := by decide +kernel
theorem dL_holds_385 : decode cL_holds 385 = .ok (.goto 4, 3) := by decide +kernel
theorem dL_holds_388 : decode cL_holds 388 = .ok (.iconst 0, 1) := by decide +kernel
theorem dL_holds_389 : decode cL_holds 389 = .ok (.istore 7, 2) := by decide +kernel
theorem dL_holds_391 : decode cL_holds 391 = .ok (.aload_n 0, 1) := by decide +kernel
theorem dL_holds_392 : decode cL_holds 392 = .ok (.invokevirtual 39, 3) := by decide +kernel
theorem dL_holds_395 : decode cL_holds 395 = .ok (.istore 8, 2) := by decide +kernel
theorem dL_holds_397 : decode cL_holds 397 = .ok (.iload 7, 2) := by decide +kernel
theorem dL_holds_399 : decode cL_holds 399 = .ok (.ifCond .eq 106, 3) := by decide +kernel
theorem dL_holds_402 : decode cL_holds 402 = .ok (.iload 8, 2) := by decide +kernel
theorem dL_holds_404 : decode cL_holds 404 = .ok (.ifCond .ne 7, 3) := by decide +kernel
theorem dL_holds_407 : decode cL_holds 407 = .ok (.iconst 1, 1) := by decide +kernel
theorem dL_holds_408 : decode cL_holds 408 = .ok (.goto 4, 3) := by decide +kernel
theorem dL_holds_411 : decode cL_holds 411 = .ok (.iconst 0, 1) := by decide +kernel
theorem dL_holds_412 : decode cL_holds 412 = .ok (.iload 6, 2) := by decide +kernel
theorem dL_holds_414 : decode cL_holds 414 = .ok (.ifCond .ne 7, 3) := by decide +kernel
theorem dL_holds_417 : decode cL_holds 417 = .ok (.iconst 1, 1) := by decide +kernel
theorem dL_holds_418 : decode cL_holds 418 = .ok (.goto 4, 3) := by decide +kernel
theorem dL_holds_421 : decode cL_holds 421 = .ok (.iconst 0, 1) := by decide +kernel
theorem dL_holds_422 : decode cL_holds 422 = .ok (.if_icmp .ne 83, 3) := by decide +kernel
theorem dL_holds_425 : decode cL_holds 425 = .ok (.iload_n 2, 1) := by decide +kernel
theorem dL_holds_426 : decode cL_holds 426 = .ok (.ifCond .gt 28, 3) := by decide +kernel
theorem dL_holds_429 : decode cL_holds 429 = .ok (.iload 8, 2) := by decide +kernel
theorem dL_holds_431 : decode cL_holds 431 = .ok (.bipush (-5), 2) := by decide +kernel
theorem dL_holds_433 : decode cL_holds 433 = .ok (.if_icmp .ne 72, 3) := by decide +kernel
theorem dL_holds_436 : decode cL_holds 436 = .ok (.aload_n 0, 1) := by decide +kernel
theorem dL_holds_437 : decode cL_holds 437 = .ok (.iconst 0, 1) := by decide +kernel
theorem dL_holds_438 : decode cL_holds 438 = .ok (.invokevirtual 42, 3) := by decide +kernel
theorem dL_holds_441 : decode cL_holds 441 = .ok (.bipush (-5), 2) := by decide +kernel
theorem dL_holds_443 : decode cL_holds 443 = .ok (.if_icmp .ne 62, 3) := by decide +kernel
theorem dL_holds_446 : decode cL_holds 446 = .ok (.aload_n 0, 1) := by decide +kernel
theorem dL_holds_447 : decode cL_holds 447 = .ok (.invokevirtual 45, 3) := by decide +kernel
theorem dL_holds_450 : decode cL_holds 450 = .ok (.iconst 1, 1) := by decide +kernel
theorem dL_holds_451 : decode cL_holds 451 = .ok (.if_icmp .ne 54, 3) := by decide +kernel
theorem dL_holds_454 : decode cL_holds 454 = .ok (.aload_n 0, 1) := by decide +kernel
theorem dL_holds_455 : decode cL_holds 455 = .ok (.invokevirtual 45, 3) := by decide +kernel
theorem dL_holds_458 : decode cL_holds 458 = .ok (.iconst 2, 1) := by decide +kernel
theorem dL_holds_459 : decode cL_holds 459 = .ok (.if_icmp .ne 7, 3) := by decide +kernel
theorem dL_holds_462 : decode cL_holds 462 = .ok (.iconst 1, 1) := by decide +kernel
theorem dL_holds_463 : decode cL_holds 463 = .ok (.goto 4, 3) := by decide +kernel
theorem dL_holds_466 : decode cL_holds 466 = .ok (.iconst 0, 1) := by decide +kernel
theorem dL_holds_467 : decode cL_holds 467 = .ok (.aload_n 0, 1) := by decide +kernel
theorem dL_holds_468 : decode cL_holds 468 = .ok (.iconst 4, 1) := by decide +kernel
theorem dL_holds_469 : decode cL_holds 469 = .ok (.invokevirtual 22, 3) := by decide +kernel
theorem dL_holds_472 : decode cL_holds 472 = .ok (.iconst 1, 1) := by decide +kernel
theorem dL_holds_473 : decode cL_holds 473 = .ok (.if_icmp .le 12, 3) := by decide +kernel
theorem dL_holds_476 : decode cL_holds 476 = .ok (.iload 6, 2) := by decide +kernel
theorem dL_holds_478 : decode cL_holds 478 = .ok (.ifCond .le 7, 3) := by decide +kernel
theorem dL_holds_481 : decode cL_holds 481 = .ok (.iconst 1, 1) := by decide +kernel
theorem dL_holds_482 : decode cL_holds 482 = .ok (.goto 4, 3) := by decide +kernel
theorem dL_holds_485 : decode cL_holds 485 = .ok (.iconst 0, 1) := by decide +kernel
theorem dL_holds_486 : decode cL_holds 486 = .ok (.if_icmp .ne 19, 3) := by decide +kernel
theorem dL_holds_489 : decode cL_holds 489 = .ok (.iload 6, 2) := by decide +kernel
theorem dL_holds_491 : decode cL_holds 491 = .ok (.ifCond .ne 10, 3) := by decide +kernel
theorem dL_holds_494 : decode cL_holds 494 = .ok (.aload_n 0, 1) := by decide +kernel
theorem dL_holds_495 : decode cL_holds 495 = .ok (.invokevirtual 45, 3) := by decide +kernel
theorem dL_holds_498 : decode cL_holds 498 = .ok (.ifCond .ne 7, 3) := by decide +kernel
theorem dL_holds_501 : decode cL_holds 501 = .ok (.iconst 1, 1) := by decide +kernel
theorem dL_holds_502 : decode cL_holds 502 = .ok (.goto 4, 3) := by decide +kernel
theorem dL_holds_505 : decode cL_holds 505 = .ok (.iconst 0, 1) := by decide +kernel
theorem dL_holds_506 : decode cL_holds 506 = .ok (.ireturn, 1) := by decide +kernel
theorem dL_tale_0 : decode cL_tale 0 = .ok (.ldc2_w 48, 3) := by decide +kernel
theorem dL_tale_3 : decode cL_tale 3 = .ok (.lstore_n 1, 1) := by decide +kernel
theorem dL_tale_4 : decode cL_tale 4 = .ok (.iconst 0, 1) := by decide +kernel
theorem dL_tale_5 : decode cL_tale 5 = .ok (.istore_n 3, 1) := by decide +kernel
theorem dL_tale_6 : decode cL_tale 6 = .ok (.iload_n 3, 1) := by decide +kernel
theorem dL_tale_7 : decode cL_tale 7 = .ok (.bipush 12, 2) := by decide +kernel
theorem dL_tale_9 : decode cL_tale 9 = .ok (.if_icmp .ge 22, 3) := by decide +kernel
theorem dL_tale_12 : decode cL_tale 12 = .ok (.ldc2_w 50, 3) := by decide +kernel
theorem dL_tale_15 : decode cL_tale 15 = .ok (.lload_n 1, 1) := by decide +kernel
theorem dL_tale_16 : decode cL_tale 16 = .ok (.lmul, 1) := by decide +kernel
theorem dL_tale_17 : decode cL_tale 17 = .ok (.aload_n 0, 1) := by decide +kernel
theorem dL_tale_18 : decode cL_tale 18 = .ok (.iload_n 3, 1) := by decide +kernel
theorem dL_tale_19 : decode cL_tale 19 = .ok (.invokevirtual 22, 3) := by decide +kernel
theorem dL_tale_22 : decode cL_tale 22 = .ok (.i2l, 1) := by decide +kernel
theorem dL_tale_23 : decode cL_tale 23 = .ok (.ladd, 1) := by decide +kernel
theorem dL_tale_24 : decode cL_tale 24 = .ok (.lstore_n 1, 1) := by decide +kernel
theorem dL_tale_25 : decode cL_tale 25 = .ok (.iinc 3 1, 3) := by decide +kernel
theorem dL_tale_28 : decode cL_tale 28 = .ok (.goto (-22), 3) := by decide +kernel
theorem dL_tale_31 : decode cL_tale 31 = .ok (.iconst 0, 1) := by decide +kernel
theorem dL_tale_32 : decode cL_tale 32 = .ok (.istore_n 3, 1) := by decide +kernel
theorem dL_tale_33 : decode cL_tale 33 = .ok (.iload_n 3, 1) := by decide +kernel
theorem dL_tale_34 : decode cL_tale 34 = .ok (.sipush 160, 3) := by decide +kernel
theorem dL_tale_37 : decode cL_tale 37 = .ok (.if_icmp .ge 29, 3) := by decide +kernel
theorem dL_tale_40 : decode cL_tale 40 = .ok (.ldc2_w 50, 3) := by decide +kernel
theorem dL_tale_43 : decode cL_tale 43 = .ok (.lload_n 1, 1) := by decide +kernel
theorem dL_tale_44 : decode cL_tale 44 = .ok (.lmul, 1) := by decide +kernel
theorem dL_tale_45 : decode cL_tale 45 = .ok (.aload_n 0, 1) := by decide +kernel
theorem dL_tale_46 : decode cL_tale 46 = .ok (.iload_n 3, 1) := by decide +kernel
theorem dL_tale_47 : decode cL_tale 47 = .ok (.bipush 10, 2) := by decide +kernel
theorem dL_tale_49 : decode cL_tale 49 = .ok (.idiv, 1) := by decide +kernel
theorem dL_tale_50 : decode cL_tale 50 = .ok (.iload_n 3, 1) := by decide +kernel
theorem dL_tale_51 : decode cL_tale 51 = .ok (.bipush 10, 2) := by decide +kernel
theorem dL_tale_53 : decode cL_tale 53 = .ok (.irem, 1) := by decide +kernel
theorem dL_tale_54 : decode cL_tale 54 = .ok (.invokevirtual 10, 3) := by decide +kernel
theorem dL_tale_57 : decode cL_tale 57 = .ok (.i2l, 1) := by decide +kernel
theorem dL_tale_58 : decode cL_tale 58 = .ok (.ladd, 1) := by decide +kernel
theorem dL_tale_59 : decode cL_tale 59 = .ok (.lstore_n 1, 1) := by decide +kernel
theorem dL_tale_60 : decode cL_tale 60 = .ok (.iinc 3 1, 3) := by decide +kernel
theorem dL_tale_63 : decode cL_tale 63 = .ok (.goto (-30), 3) := by decide +kernel
theorem dL_tale_66 : decode cL_tale 66 = .ok (.lload_n 1, 1) := by decide +kernel
theorem dL_tale_67 : decode cL_tale 67 = .ok (.lreturn, 1) := by decide +kernel
theorem dL_nextSo_0 : decode cL_nextSo 0 = .ok (.aload_n 0, 1) := by decide +kernel
theorem dL_nextSo_1 : decode cL_nextSo 1 = .ok (.iconst 0, 1) := by decide +kernel
theorem dL_nextSo_2 : decode cL_nextSo 2 = .ok (.invokevirtual 42, 3) := by decide +kernel
theorem dL_nextSo_5 : decode cL_nextSo 5 = .ok (.istore_n 1, 1) := by decide +kernel
theorem dL_nextSo_6 : decode cL_nextSo 6 = .ok (.aload_n 0, 1) := by decide +kernel
theorem dL_nextSo_7 : decode cL_nextSo 7 = .ok (.iconst 1, 1) := by decide +kernel
theorem dL_nextSo_8 : decode cL_nextSo 8 = .ok (.invokevirtual 42, 3) := by decide +kernel
theorem dL_nextSo_11 : decode cL_nextSo 11 = .ok (.istore_n 2, 1) := by decide +kernel
theorem dL_nextSo_12 : decode cL_nextSo 12 = .ok (.aload_n 0, 1) := by decide +kernel
theorem dL_nextSo_13 : decode cL_nextSo 13 = .ok (.iconst 0, 1) := by decide +kernel
theorem dL_nextSo_14 : decode cL_nextSo 14 = .ok (.invokevirtual 22, 3) := by decide +kernel
theorem dL_nextSo_17 : decode cL_nextSo 17 = .ok (.istore_n 3, 1) := by decide +kernel
theorem dL_nextSo_18 : decode cL_nextSo 18 = .ok (.aload_n 0, 1) := by decide +kernel
theorem dL_nextSo_19 : decode cL_nextSo 19 = .ok (.iconst 5, 1) := by decide +kernel
theorem dL_nextSo_20 : decode cL_nextSo 20 = .ok (.invokevirtual 22, 3) := by decide +kernel
theorem dL_nextSo_23 : decode cL_nextSo 23 = .ok (.istore 4, 2) := by decide +kernel
theorem dL_nextSo_25 : decode cL_nextSo 25 = .ok (.iconst 0, 1) := by decide +kernel
theorem dL_nextSo_26 : decode cL_nextSo 26 = .ok (.istore 5, 2) := by decide +kernel
theorem dL_nextSo_28 : decode cL_nextSo 28 = .ok (.iload_n 1, 1) := by decide +kernel
theorem dL_nextSo_29 : decode cL_nextSo 29 = .ok (.bipush (-5), 2) := by decide +kernel
theorem dL_nextSo_31 : decode cL_nextSo 31 = .ok (.if_icmp .ne 23, 3) := by decide +kernel
theorem dL_nextSo_34 : decode cL_nextSo 34 = .ok (.iload_n 2, 1) := by decide +kernel
theorem dL_nextSo_35 : decode cL_nextSo 35 = .ok (.bipush (-5), 2) := by decide +kernel
theorem dL_nextSo_37 : decode cL_nextSo 37 = .ok (.if_icmp .ne 15, 3) := by decide +kernel
theorem dL_nextSo_40 : decode cL_nextSo 40 = .ok (.aload_n 0, 1) := by decide +kernel
theorem dL_nextSo_41 : decode cL_nextSo 41 = .ok (.iconst 2, 1) := by decide +kernel
theorem dL_nextSo_42 : decode cL_nextSo 42 = .ok (.invokevirtual 22, 3) := by decide +kernel
theorem dL_nextSo_45 : decode cL_nextSo 45 = .ok (.ifCond .ne 7, 3) := by decide +kernel
theorem dL_nextSo_48 : decode cL_nextSo 48 = .ok (.iconst 1, 1) := by decide +kernel
theorem dL_nextSo_49 : decode cL_nextSo 49 = .ok (.goto 4, 3) := by decide +kernel
theorem dL_nextSo_52 : decode cL_nextSo 52 = .ok (.iconst 0, 1) := by decide +kernel
theorem dL_nextSo_53 : decode cL_nextSo 53 = .ok (.ireturn, 1) := by decide +kernel
theorem dL_nextSo_54 : decode cL_nextSo 54 = .ok (.iload_n 1, 1) := by decide +kernel
theorem dL_nextSo_55 : decode cL_nextSo 55 = .ok (.ifCond .le 47, 3) := by decide +kernel
theorem dL_nextSo_58 : decode cL_nextSo 58 = .ok (.iload_n 1, 1) := by decide +kernel
theorem dL_nextSo_59 : decode cL_nextSo 59 = .ok (.sipush 400, 3) := by decide +kernel
theorem dL_nextSo_62 : decode cL_nextSo 62 = .ok (.if_icmp .gt 40, 3) := by decide +kernel
theorem dL_nextSo_65 : decode cL_nextSo 65 = .ok (.iload_n 1, 1) := by decide +kernel
theorem dL_nextSo_66 : decode cL_nextSo 66 = .ok (.iconst 1, 1) := by decide +kernel
theorem dL_nextSo_67 : decode cL_nextSo 67 = .ok (.if_icmp .eq 23, 3) := by decide +kernel
theorem dL_nextSo_70 : decode cL_nextSo 70 = .ok (.aload_n 0, 1) := by decide +kernel
theorem dL_nextSo_71 : decode cL_nextSo 71 = .ok (.iload_n 1, 1) := by decide +kernel
theorem dL_nextSo_72 : decode cL_nextSo 72 = .ok (.iconst 1, 1) := by decide +kernel
theorem dL_nextSo_73 : decode cL_nextSo 73 = .ok (.isub, 1) := by decide +kernel
theorem dL_nextSo_74 : decode cL_nextSo 74 = .ok (.invokevirtual 52, 3) := by decide +kernel
theorem dL_nextSo_77 : decode cL_nextSo 77 = .ok (.ifCond .ne 25, 3) := by decide +kernel
theorem dL_nextSo_80 : decode cL_nextSo 80 = .ok (.aload_n 0, 1) := by decide +kernel
theorem dL_nextSo_81 : decode cL_nextSo 81 = .ok (.iconst 5, 1) := by decide +kernel
theorem dL_nextSo_82 : decode cL_nextSo 82 = .ok (.invokevirtual 22, 3) := by decide +kernel
theorem dL_nextSo_85 : decode cL_nextSo 85 = .ok (.iload 4, 2) := by decide +kernel
theorem dL_nextSo_87 : decode cL_nextSo 87 = .ok (.if_icmp .ne 15, 3) := by decide +kernel
theorem dL_nextSo_90 : decode cL_nextSo 90 = .ok (.aload_n 0, 1) := by decide +kernel
theorem dL_nextSo_91 : decode cL_nextSo 91 = .ok (.iconst 1, 1) := by decide +kernel
theorem dL_nextSo_92 : decode cL_nextSo 92 = .ok (.invokevirtual 52, 3) := by decide +kernel
theorem dL_nextSo_95 : decode cL_nextSo 95 = .ok (.ifCond .le 7, 3) := by decide +kernel
theorem dL_nextSo_98 : decode cL_nextSo 98 = .ok (.iconst 1, 1) := by decide +kernel
theorem dL_nextSo_99 : decode cL_nextSo 99 = .ok (.goto 4, 3) := by decide +kernel
theorem dL_nextSo_102 : decode cL_nextSo 102 = .ok (.iconst 0, 1) := by decide +kernel
theorem dL_nextSo_103 : decode cL_nextSo 103 = .ok (.istore 6, 2) := by decide +kernel
theorem dL_nextSo_105 : decode cL_nextSo 105 = .ok (.iconst 0, 1) := by decide +kernel
theorem dL_nextSo_106 : decode cL_nextSo 106 = .ok (.istore 7, 2) := by decide +kernel
theorem dL_nextSo_108 : decode cL_nextSo 108 = .ok (.iload 7, 2) := by decide +kernel
theorem dL_nextSo_110 : decode cL_nextSo 110 = .ok (.bipush 16, 2) := by decide +kernel
theorem dL_nextSo_112 : decode cL_nextSo 112 = .ok (.if_icmp .ge 77, 3) := by decide +kernel
theorem dL_nextSo_115 : decode cL_nextSo 115 = .ok (.iload 5, 2) := by decide +kernel
theorem dL_nextSo_117 : decode cL_nextSo 117 = .ok (.iload_n 2, 1) := by decide +kernel
theorem dL_nextSo_118 : decode cL_nextSo 118 = .ok (.iload 7, 2) := by decide +kernel
theorem dL_nextSo_120 : decode cL_nextSo 120 = .ok (.ishr, 1) := by decide +kernel
theorem dL_nextSo_121 : decode cL_nextSo 121 = .ok (.iconst 1, 1) := by decide +kernel
theorem dL_nextSo_122 : decode cL_nextSo 122 = .ok (.iand, 1) := by decide +kernel
theorem dL_nextSo_123 : decode cL_nextSo 123 = .ok (.iadd, 1) := by decide +kernel
theorem dL_nextSo_124 : decode cL_nextSo 124 = .ok (.istore 5, 2) := by decide +kernel
theorem dL_nextSo_126 : decode cL_nextSo 126 = .ok (.iload 6, 2) := by decide +kernel
theorem dL_nextSo_128 : decode cL_nextSo 128 = .ok (.ifCond .eq 52, 3) := by decide +kernel
theorem dL_nextSo_131 : decode cL_nextSo 131 = .ok (.iload_n 2, 1) := by decide +kernel
theorem dL_nextSo_132 : decode cL_nextSo 132 = .ok (.iload 7, 2) := by decide +kernel
theorem dL_nextSo_134 : decode cL_nextSo 134 = .ok (.ishr, 1) := by decide +kernel
theorem dL_nextSo_135 : decode cL_nextSo 135 = .ok (.iconst 1, 1) := by decide +kernel
theorem dL_nextSo_136 : decode cL_nextSo 136 = .ok (.iand, 1) := by decide +kernel
theorem dL_nextSo_137 : decode cL_nextSo 137 = .ok (.iconst 1, 1) := by decide +kernel
theorem dL_nextSo_138 : decode cL_nextSo 138 = .ok (.if_icmp .ne 7, 3) := by decide +kernel
theorem dL_nextSo_141 : decode cL_nextSo 141 = .ok (.iconst 1, 1) := by decide +kernel
theorem dL_nextSo_142 : decode cL_nextSo 142 = .ok (.goto 4, 3) := by decide +kernel
theorem dL_nextSo_145 : decode cL_nextSo 145 = .ok (.iconst 0, 1) := by decide +kernel
theorem dL_nextSo_146 : decode cL_nextSo 146 = .ok (.aload_n 0, 1) := by decide +kernel
theorem dL_nextSo_147 : decode cL_nextSo 147 = .ok (.iload 7, 2) := by decide +kernel
theorem dL_nextSo_149 : decode cL_nextSo 149 = .ok (.invokestatic 26, 3) := by decide +kernel
theorem dL_nextSo_152 : decode cL_nextSo 152 = .ok (.ifCond .eq 20, 3) := by decide +kernel
theorem dL_nextSo_155 : decode cL_nextSo 155 = .ok (.aload_n 0, 1) := by decide +kernel
theorem dL_nextSo_156 : decode cL_nextSo 156 = .ok (.iload 7, 2) := by decide +kernel
theorem dL_nextSo_158 : decode cL_nextSo 158 = .ok (.iconst 5, 1) := by decide +kernel
theorem dL_nextSo_159 : decode cL_nextSo 159 = .ok (.invokevirtual 10, 3) := by decide +kernel
theorem dL_nextSo_162 : decode cL_nextSo 162 = .ok (.iload_n 3, 1) := by decide +kernel
theorem dL_nextSo_163 : decode cL_nextSo 163 = .ok (.iload_n 1, 1) := by decide +kernel
theorem dL_nextSo_164 : decode cL_nextSo 164 = .ok (.iadd, 1) := by decide +kernel
theorem dL_nextSo_165 : decode cL_nextSo 165 = .ok (.if_icmp .ne 7, 3) := by decide +kernel
theorem dL_nextSo_168 : decode cL_nextSo 168 = .ok (.iconst 1, 1) := by decide +kernel
theorem dL_nextSo_169 : decode cL_nextSo 169 = .ok (.goto 4, 3) := by decide +kernel
theorem dL_nextSo_172 : decode cL_nextSo 172 = .ok (.iconst 0, 1) := by decide +kernel
theorem dL_nextSo_173 : decode cL_nextSo 173 = .ok (.if_icmp .ne 7, 3) := by decide +kernel
theorem dL_nextSo_176 : decode cL_nextSo 176 = .ok (.iconst 1, 1) := by decide +kernel
theorem dL_nextSo_177 : decode cL_nextSo 177 = .ok (.goto 4, 3) := by decide +kernel
theorem dL_nextSo_180 : decode cL_nextSo 180 = .ok (.iconst 0, 1) := by decide +kernel
theorem dL_nextSo_181 : decode cL_nextSo 181 = .ok (.istore 6, 2) := by decide +kernel
theorem dL_nextSo_183 : decode cL_nextSo 183 = .ok (.iinc 7 1, 3) := by decide +kernel
theorem dL_nextSo_186 : decode cL_nextSo 186 = .ok (.goto (-78), 3) := by decide +kernel
theorem dL_nextSo_189 : decode cL_nextSo 189 = .ok (.iload 6, 2) := by decide +kernel
theorem dL_nextSo_191 : decode cL_nextSo 191 = .ok (.ifCond .eq 59, 3) := by decide +kernel
theorem dL_nextSo_194 : decode cL_nextSo 194 = .ok (.aload_n 0, 1) := by decide +kernel
theorem dL_nextSo_195 : decode cL_nextSo 195 = .ok (.iconst 5, 1) := by decide +kernel
theorem dL_nextSo_196 : decode cL_nextSo 196 = .ok (.invokevirtual 22, 3) := by decide +kernel
theorem dL_nextSo_199 : decode cL_nextSo 199 = .ok (.iload 4, 2) := by decide +kernel
theorem dL_nextSo_201 : decode cL_nextSo 201 = .ok (.iload 5, 2) := by decide +kernel
theorem dL_nextSo_203 : decode cL_nextSo 203 = .ok (.iadd, 1) := by decide +kernel
theorem dL_nextSo_204 : decode cL_nextSo 204 = .ok (.if_icmp .ne 46, 3) := by decide +kernel
theorem dL_nextSo_207 : decode cL_nextSo 207 = .ok (.aload_n 0, 1) := by decide +kernel
theorem dL_nextSo_208 : decode cL_nextSo 208 = .ok (.iconst 0, 1) := by decide +kernel
theorem dL_nextSo_209 : decode cL_nextSo 209 = .ok (.invokevirtual 22, 3) := by decide +kernel
theorem dL_nextSo_212 : decode cL_nextSo 212 = .ok (.iload_n 3, 1) := by decide +kernel
theorem dL_nextSo_213 : decode cL_nextSo 213 = .ok (.iload_n 1, 1) := by decide +kernel
theorem dL_nextSo_214 : decode cL_nextSo 214 = .ok (.iadd, 1) := by decide +kernel
theorem dL_nextSo_215 : decode cL_nextSo 215 = .ok (.if_icmp .ne 35, 3) := by decide +kernel
theorem dL_nextSo_218 : decode cL_nextSo 218 = .ok (.aload_n 0, 1) := by decide +kernel
theorem dL_nextSo_219 : decode cL_nextSo 219 = .ok (.invokevirtual 55, 3) := by decide +kernel
theorem dL_nextSo_222 : decode cL_nextSo 222 = .ok (.ifCond .lt 28, 3) := by decide +kernel
theorem dL_nextSo_225 : decode cL_nextSo 225 = .ok (.iload_n 1, 1) := by decide +kernel
theorem dL_nextSo_226 : decode cL_nextSo 226 = .ok (.iconst 1, 1) := by decide +kernel
theorem dL_nextSo_227 : decode cL_nextSo 227 = .ok (.if_icmp .eq 10, 3) := by decide +kernel
theorem dL_nextSo_230 : decode cL_nextSo 230 = .ok (.aload_n 0, 1) := by decide +kernel
theorem dL_nextSo_231 : decode cL_nextSo 231 = .ok (.invokevirtual 55, 3) := by decide +kernel
theorem dL_nextSo_234 : decode cL_nextSo 234 = .ok (.ifCond .lt 16, 3) := by decide +kernel
theorem dL_nextSo_237 : decode cL_nextSo 237 = .ok (.aload_n 0, 1) := by decide +kernel
theorem dL_nextSo_238 : decode cL_nextSo 238 = .ok (.iconst 0, 1) := by decide +kernel
theorem dL_nextSo_239 : decode cL_nextSo 239 = .ok (.invokevirtual 22, 3) := by decide +kernel
theorem dL_nextSo_242 : decode cL_nextSo 242 = .ok (.iload_n 3, 1) := by decide +kernel
theorem dL_nextSo_243 : decode cL_nextSo 243 = .ok (.if_icmp .ne 7, 3) := by decide +kernel
theorem dL_nextSo_246 : decode cL_nextSo 246 = .ok (.iconst 1, 1) := by decide +kernel
theorem dL_nextSo_247 : decode cL_nextSo 247 = .ok (.goto 4, 3) := by decide +kernel
theorem dL_nextSo_250 : decode cL_nextSo 250 = .ok (.iconst 0, 1) := by decide +kernel
theorem dL_nextSo_251 : decode cL_nextSo 251 = .ok (.ireturn, 1) := by decide +kernel
theorem dL_togetherSo_0 : decode cL_togetherSo 0 = .ok (.aload_n 0, 1) := by decide +kernel
theorem dL_togetherSo_1 : decode cL_togetherSo 1 = .ok (.invokevirtual 39, 3) := by decide +kernel
theorem dL_togetherSo_4 : decode cL_togetherSo 4 = .ok (.istore_n 1, 1) := by decide +kernel
theorem dL_togetherSo_5 : decode cL_togetherSo 5 = .ok (.iload_n 1, 1) := by decide +kernel
theorem dL_togetherSo_6 : decode cL_togetherSo 6 = .ok (.iconst 1, 1) := by decide +kernel
theorem dL_togetherSo_7 : decode cL_togetherSo 7 = .ok (.if_icmp .lt 10, 3) := by decide +kernel
theorem dL_togetherSo_10 : decode cL_togetherSo 10 = .ok (.iload_n 1, 1) := by decide +kernel
theorem dL_togetherSo_11 : decode cL_togetherSo 11 = .ok (.sipush 999, 3) := by decide +kernel
theorem dL_togetherSo_14 : decode cL_togetherSo 14 = .ok (.if_icmp .le 62, 3) := by decide +kernel
theorem dL_togetherSo_17 : decode cL_togetherSo 17 = .ok (.iload_n 1, 1) := by decide +kernel
theorem dL_togetherSo_18 : decode cL_togetherSo 18 = .ok (.ifCond .eq 52, 3) := by decide +kernel
theorem dL_togetherSo_21 : decode cL_togetherSo 21 = .ok (.iload_n 1, 1) := by decide +kernel
theorem dL_togetherSo_22 : decode cL_togetherSo 22 = .ok (.bipush (-5), 2) := by decide +kernel
theorem dL_togetherSo_24 : decode cL_togetherSo 24 = .ok (.if_icmp .eq 46, 3) := by decide +kernel
theorem dL_togetherSo_27 : decode cL_togetherSo 27 = .ok (.iload_n 1, 1) := by decide +kernel
theorem dL_togetherSo_28 : decode cL_togetherSo 28 = .ok (.sipush 2000, 3) := by decide +kernel
theorem dL_togetherSo_31 : decode cL_togetherSo 31 = .ok (.if_icmp .gt 43, 3) := by decide +kernel
theorem dL_togetherSo_34 : decode cL_togetherSo 34 = .ok (.aload_n 0, 1) := by decide +kernel
theorem dL_togetherSo_35 : decode cL_togetherSo 35 = .ok (.sipush 999, 3) := by decide +kernel
theorem dL_togetherSo_38 : decode cL_togetherSo 38 = .ok (.invokevirtual 52, 3) := by decide +kernel
theorem dL_togetherSo_41 : decode cL_togetherSo 41 = .ok (.ifCond .lt 33, 3) := by decide +kernel
theorem dL_togetherSo_44 : decode cL_togetherSo 44 = .ok (.aload_n 0, 1) := by decide +kernel
theorem dL_togetherSo_45 : decode cL_togetherSo 45 = .ok (.invokevirtual 35, 3) := by decide +kernel
theorem dL_togetherSo_48 : decode cL_togetherSo 48 = .ok (.ifCond .le 26, 3) := by decide +kernel
theorem dL_togetherSo_51 : decode cL_togetherSo 51 = .ok (.aload_n 0, 1) := by decide +kernel
theorem dL_togetherSo_52 : decode cL_togetherSo 52 = .ok (.invokevirtual 39, 3) := by decide +kernel
theorem dL_togetherSo_55 : decode cL_togetherSo 55 = .ok (.iload_n 1, 1) := by decide +kernel
theorem dL_togetherSo_56 : decode cL_togetherSo 56 = .ok (.sipush 999, 3) := by decide +kernel
theorem dL_togetherSo_59 : decode cL_togetherSo 59 = .ok (.isub, 1) := by decide +kernel
theorem dL_togetherSo_60 : decode cL_togetherSo 60 = .ok (.if_icmp .ne 14, 3) := by decide +kernel
theorem dL_togetherSo_63 : decode cL_togetherSo 63 = .ok (.aload_n 0, 1) := by decide +kernel
theorem dL_togetherSo_64 : decode cL_togetherSo 64 = .ok (.invokevirtual 55, 3) := by decide +kernel
theorem dL_togetherSo_67 : decode cL_togetherSo 67 = .ok (.ifCond .lt 7, 3) := by decide +kernel
theorem dL_togetherSo_70 : decode cL_togetherSo 70 = .ok (.iconst 1, 1) := by decide +kernel
theorem dL_togetherSo_71 : decode cL_togetherSo 71 = .ok (.goto 4, 3) := by decide +kernel
theorem dL_togetherSo_74 : decode cL_togetherSo 74 = .ok (.iconst 0, 1) := by decide +kernel
theorem dL_togetherSo_75 : decode cL_togetherSo 75 = .ok (.ireturn, 1) := by decide +kernel
theorem dL_togetherSo_76 : decode cL_togetherSo 76 = .ok (.aload_n 0, 1) := by decide +kernel
theorem dL_togetherSo_77 : decode cL_togetherSo 77 = .ok (.iload_n 1, 1) := by decide +kernel
theorem dL_togetherSo_78 : decode cL_togetherSo 78 = .ok (.invokevirtual 52, 3) := by decide +kernel
theorem dL_togetherSo_81 : decode cL_togetherSo 81 = .ok (.ifCond .lt 21, 3) := by decide +kernel
theorem dL_togetherSo_84 : decode cL_togetherSo 84 = .ok (.aload_n 0, 1) := by decide +kernel
theorem dL_togetherSo_85 : decode cL_togetherSo 85 = .ok (.invokevirtual 35, 3) := by decide +kernel
theorem dL_togetherSo_88 : decode cL_togetherSo 88 = .ok (.ifCond .ne 14, 3) := by decide +kernel
theorem dL_togetherSo_91 : decode cL_togetherSo 91 = .ok (.aload_n 0, 1) := by decide +kernel
theorem dL_togetherSo_92 : decode cL_togetherSo 92 = .ok (.invokevirtual 55, 3) := by decide +kernel
theorem dL_togetherSo_95 : decode cL_togetherSo 95 = .ok (.ifCond .lt 7, 3) := by decide +kernel
theorem dL_togetherSo_98 : decode cL_togetherSo 98 = .ok (.iconst 1, 1) := by decide +kernel
theorem dL_togetherSo_99 : decode cL_togetherSo 99 = .ok (.goto 4, 3) := by decide +kernel
theorem dL_togetherSo_102 : decode cL_togetherSo 102 = .ok (.iconst 0, 1) := by decide +kernel
theorem dL_togetherSo_103 : decode cL_togetherSo 103 = .ok (.istore_n 2, 1) := by decide +kernel
theorem dL_togetherSo_104 : decode cL_togetherSo 104 = .ok (.iload_n 2, 1) := by decide +kernel
theorem dL_togetherSo_105 : decode cL_togetherSo 105 = .ok (.ifCond .eq 36, 3) := by decide +kernel
theorem dL_togetherSo_108 : decode cL_togetherSo 108 = .ok (.iload_n 1, 1) := by decide +kernel
theorem dL_togetherSo_109 : decode cL_togetherSo 109 = .ok (.iconst 1, 1) := by decide +kernel
theorem dL_togetherSo_110 : decode cL_togetherSo 110 = .ok (.if_icmp .eq 27, 3) := by decide +kernel
theorem dL_togetherSo_113 : decode cL_togetherSo 113 = .ok (.aload_n 0, 1) := by decide +kernel
theorem dL_togetherSo_114 : decode cL_togetherSo 114 = .ok (.iload_n 1, 1) := by decide +kernel
theorem dL_togetherSo_115 : decode cL_togetherSo 115 = .ok (.iconst 1, 1) := by decide +kernel
theorem dL_togetherSo_116 : decode cL_togetherSo 116 = .ok (.isub, 1) := by decide +kernel
theorem dL_togetherSo_117 : decode cL_togetherSo 117 = .ok (.invokevirtual 52, 3) := by decide +kernel
theorem dL_togetherSo_120 : decode cL_togetherSo 120 = .ok (.ifCond .lt 21, 3) := by decide +kernel
theorem dL_togetherSo_123 : decode cL_togetherSo 123 = .ok (.aload_n 0, 1) := by decide +kernel
theorem dL_togetherSo_124 : decode cL_togetherSo 124 = .ok (.invokevirtual 35, 3) := by decide +kernel
theorem dL_togetherSo_127 : decode cL_togetherSo 127 = .ok (.ifCond .le 14, 3) := by decide +kernel
theorem dL_togetherSo_130 : decode cL_togetherSo 130 = .ok (.aload_n 0, 1) := by decide +kernel
theorem dL_togetherSo_131 : decode cL_togetherSo 131 = .ok (.invokevirtual 55, 3) := by decide +kernel
theorem dL_togetherSo_134 : decode cL_togetherSo 134 = .ok (.ifCond .lt 7, 3) := by decide +kernel
theorem dL_togetherSo_137 : decode cL_togetherSo 137 = .ok (.iconst 1, 1) := by decide +kernel
theorem dL_togetherSo_138 : decode cL_togetherSo 138 = .ok (.goto 4, 3) := by decide +kernel
theorem dL_togetherSo_141 : decode cL_togetherSo 141 = .ok (.iconst 0, 1) := by decide +kernel
theorem dL_togetherSo_142 : decode cL_togetherSo 142 = .ok (.ireturn, 1) := by decide +kernel
theorem dL_linkedSo_0 : decode cL_linkedSo 0 = .ok (.aload_n 0, 1) := by decide +kernel
theorem dL_linkedSo_1 : decode cL_linkedSo 1 = .ok (.iload_n 1, 1) := by decide +kernel
theorem dL_linkedSo_2 : decode cL_linkedSo 2 = .ok (.iload_n 2, 1) := by decide +kernel
theorem dL_linkedSo_3 : decode cL_linkedSo 3 = .ok (.invokevirtual 58, 3) := by decide +kernel
theorem dL_linkedSo_6 : decode cL_linkedSo 6 = .ok (.istore_n 3, 1) := by decide +kernel
theorem dL_linkedSo_7 : decode cL_linkedSo 7 = .ok (.aload_n 0, 1) := by decide +kernel
theorem dL_linkedSo_8 : decode cL_linkedSo 8 = .ok (.iload_n 1, 1) := by decide +kernel
theorem dL_linkedSo_9 : decode cL_linkedSo 9 = .ok (.invokestatic 26, 3) := by decide +kernel
theorem dL_linkedSo_12 : decode cL_linkedSo 12 = .ok (.ifCond .eq 11, 3) := by decide +kernel
theorem dL_linkedSo_15 : decode cL_linkedSo 15 = .ok (.aload_n 0, 1) := by decide +kernel
theorem dL_linkedSo_16 : decode cL_linkedSo 16 = .ok (.iload_n 2, 1) := by decide +kernel
theorem dL_linkedSo_17 : decode cL_linkedSo 17 = .ok (.invokestatic 26, 3) := by decide +kernel
theorem dL_linkedSo_20 : decode cL_linkedSo 20 = .ok (.ifCond .ne 14, 3) := by decide +kernel
theorem dL_linkedSo_23 : decode cL_linkedSo 23 = .ok (.iload_n 3, 1) := by decide +kernel
theorem dL_linkedSo_24 : decode cL_linkedSo 24 = .ok (.iconst (-1), 1) := by decide +kernel
theorem dL_linkedSo_25 : decode cL_linkedSo 25 = .ok (.if_icmp .ne 7, 3) := by decide +kernel
theorem dL_linkedSo_28 : decode cL_linkedSo 28 = .ok (.iconst 1, 1) := by decide +kernel
theorem dL_linkedSo_29 : decode cL_linkedSo 29 = .ok (.goto 4, 3) := by decide +kernel
theorem dL_linkedSo_32 : decode cL_linkedSo 32 = .ok (.iconst 0, 1) := by decide +kernel
theorem dL_linkedSo_33 : decode cL_linkedSo 33 = .ok (.ireturn, 1) := by decide +kernel
theorem dL_linkedSo_34 : decode cL_linkedSo 34 = .ok (.iload_n 1, 1) := by decide +kernel
theorem dL_linkedSo_35 : decode cL_linkedSo 35 = .ok (.iload_n 2, 1) := by decide +kernel
theorem dL_linkedSo_36 : decode cL_linkedSo 36 = .ok (.if_icmp .ne 15, 3) := by decide +kernel
theorem dL_linkedSo_39 : decode cL_linkedSo 39 = .ok (.iload_n 3, 1) := by decide +kernel
theorem dL_linkedSo_40 : decode cL_linkedSo 40 = .ok (.bipush (-2), 2) := by decide +kernel
theorem dL_linkedSo_42 : decode cL_linkedSo 42 = .ok (.if_icmp .ne 7, 3) := by decide +kernel
theorem dL_linkedSo_45 : decode cL_linkedSo 45 = .ok (.iconst 1, 1) := by decide +kernel
theorem dL_linkedSo_46 : decode cL_linkedSo 46 = .ok (.goto 4, 3) := by decide +kernel
theorem dL_linkedSo_49 : decode cL_linkedSo 49 = .ok (.iconst 0, 1) := by decide +kernel
theorem dL_linkedSo_50 : decode cL_linkedSo 50 = .ok (.ireturn, 1) := by decide +kernel
theorem dL_linkedSo_51 : decode cL_linkedSo 51 = .ok (.aload_n 0, 1) := by decide +kernel
theorem dL_linkedSo_52 : decode cL_linkedSo 52 = .ok (.iload_n 1, 1) := by decide +kernel
theorem dL_linkedSo_53 : decode cL_linkedSo 53 = .ok (.bipush 6, 2) := by decide +kernel
theorem dL_linkedSo_55 : decode cL_linkedSo 55 = .ok (.invokevirtual 10, 3) := by decide +kernel
theorem dL_linkedSo_58 : decode cL_linkedSo 58 = .ok (.iload_n 2, 1) := by decide +kernel
theorem dL_linkedSo_59 : decode cL_linkedSo 59 = .ok (.ishr, 1) := by decide +kernel
theorem dL_linkedSo_60 : decode cL_linkedSo 60 = .ok (.iconst 1, 1) := by decide +kernel
theorem dL_linkedSo_61 : decode cL_linkedSo 61 = .ok (.iand, 1) := by decide +kernel
theorem dL_linkedSo_62 : decode cL_linkedSo 62 = .ok (.iconst 1, 1) := by decide +kernel
theorem dL_linkedSo_63 : decode cL_linkedSo 63 = .ok (.if_icmp .ne 7, 3) := by decide +kernel
theorem dL_linkedSo_66 : decode cL_linkedSo 66 = .ok (.iconst 1, 1) := by decide +kernel
theorem dL_linkedSo_67 : decode cL_linkedSo 67 = .ok (.goto 4, 3) := by decide +kernel
theorem dL_linkedSo_70 : decode cL_linkedSo 70 = .ok (.iconst 0, 1) := by decide +kernel
theorem dL_linkedSo_71 : decode cL_linkedSo 71 = .ok (.istore 4, 2) := by decide +kernel
theorem dL_linkedSo_73 : decode cL_linkedSo 73 = .ok (.aload_n 0, 1) := by decide +kernel
theorem dL_linkedSo_74 : decode cL_linkedSo 74 = .ok (.iconst 3, 1) := by decide +kernel
theorem dL_linkedSo_75 : decode cL_linkedSo 75 = .ok (.invokevirtual 22, 3) := by decide +kernel
theorem dL_linkedSo_78 : decode cL_linkedSo 78 = .ok (.istore 5, 2) := by decide +kernel
theorem dL_linkedSo_80 : decode cL_linkedSo 80 = .ok (.aload_n 0, 1) := by decide +kernel
theorem dL_linkedSo_81 : decode cL_linkedSo 81 = .ok (.iload_n 1, 1) := by decide +kernel
theorem dL_linkedSo_82 : decode cL_linkedSo 82 = .ok (.iload_n 2, 1) := by decide +kernel
theorem dL_linkedSo_83 : decode cL_linkedSo 83 = .ok (.iload 4, 2) := by decide +kernel
theorem dL_linkedSo_85 : decode cL_linkedSo 85 = .ok (.ifCond .ne 7, 3) := by decide +kernel
theorem dL_linkedSo_88 : decode cL_linkedSo 88 = .ok (.iconst 1, 1) := by decide +kernel
theorem dL_linkedSo_89 : decode cL_linkedSo 89 = .ok (.goto 4, 3) := by decide +kernel
theorem dL_linkedSo_92 : decode cL_linkedSo 92 = .ok (.iconst 0, 1) := by decide +kernel
theorem dL_linkedSo_93 : decode cL_linkedSo 93 = .ok (.invokevirtual 61, 3) := by decide +kernel
theorem dL_linkedSo_96 : decode cL_linkedSo 96 = .ok (.iload 5, 2) := by decide +kernel
theorem dL_linkedSo_98 : decode cL_linkedSo 98 = .ok (.iload 4, 2) := by decide +kernel
theorem dL_linkedSo_100 : decode cL_linkedSo 100 = .ok (.ifCond .eq 7, 3) := by decide +kernel
theorem dL_linkedSo_103 : decode cL_linkedSo 103 = .ok (.iconst (-1), 1) := by decide +kernel
theorem dL_linkedSo_104 : decode cL_linkedSo 104 = .ok (.goto 4, 3) := by decide +kernel
theorem dL_linkedSo_107 : decode cL_linkedSo 107 = .ok (.iconst 1, 1) := by decide +kernel
theorem dL_linkedSo_108 : decode cL_linkedSo 108 = .ok (.iadd, 1) := by decide +kernel
theorem dL_linkedSo_109 : decode cL_linkedSo 109 = .ok (.if_icmp .ne 32, 3) := by decide +kernel
theorem dL_linkedSo_112 : decode cL_linkedSo 112 = .ok (.aload_n 0, 1) := by decide +kernel
theorem dL_linkedSo_113 : decode cL_linkedSo 113 = .ok (.invokevirtual 39, 3) := by decide +kernel
theorem dL_linkedSo_116 : decode cL_linkedSo 116 = .ok (.iload_n 3, 1) := by decide +kernel
theorem dL_linkedSo_117 : decode cL_linkedSo 117 = .ok (.if_icmp .ne 24, 3) := by decide +kernel
theorem dL_linkedSo_120 : decode cL_linkedSo 120 = .ok (.aload_n 0, 1) := by decide +kernel
theorem dL_linkedSo_121 : decode cL_linkedSo 121 = .ok (.invokevirtual 55, 3) := by decide +kernel
theorem dL_linkedSo_124 : decode cL_linkedSo 124 = .ok (.ifCond .lt 17, 3) := by decide +kernel
theorem dL_linkedSo_127 : decode cL_linkedSo 127 = .ok (.aload_n 0, 1) := by decide +kernel
theorem dL_linkedSo_128 : decode cL_linkedSo 128 = .ok (.iconst 3, 1) := by decide +kernel
theorem dL_linkedSo_129 : decode cL_linkedSo 129 = .ok (.invokevirtual 22, 3) := by decide +kernel
theorem dL_linkedSo_132 : decode cL_linkedSo 132 = .ok (.iload 5, 2) := by decide +kernel
theorem dL_linkedSo_134 : decode cL_linkedSo 134 = .ok (.if_icmp .ne 7, 3) := by decide +kernel
theorem dL_linkedSo_137 : decode cL_linkedSo 137 = .ok (.iconst 1, 1) := by decide +kernel
theorem dL_linkedSo_138 : decode cL_linkedSo 138 = .ok (.goto 4, 3) := by decide +kernel
theorem dL_linkedSo_141 : decode cL_linkedSo 141 = .ok (.iconst 0, 1) := by decide +kernel
theorem dL_linkedSo_142 : decode cL_linkedSo 142 = .ok (.ireturn, 1) := by decide +kernel
theorem dL_bestSo_0 : decode cL_bestSo 0 = .ok (.bipush (-5), 2) := by decide +kernel
theorem dL_bestSo_2 : decode cL_bestSo 2 = .ok (.istore_n 1, 1) := by decide +kernel
theorem dL_bestSo_3 : decode cL_bestSo 3 = .ok (.bipush (-5), 2) := by decide +kernel
theorem dL_bestSo_5 : decode cL_bestSo 5 = .ok (.istore_n 2, 1) := by decide +kernel
theorem dL_bestSo_6 : decode cL_bestSo 6 = .ok (.iconst 0, 1) := by decide +kernel
theorem dL_bestSo_7 : decode cL_bestSo 7 = .ok (.istore_n 3, 1) := by decide +kernel
theorem dL_bestSo_8 : decode cL_bestSo 8 = .ok (.iload_n 3, 1) := by decide +kernel
theorem dL_bestSo_9 : decode cL_bestSo 9 = .ok (.sipush 256, 3) := by decide +kernel
theorem dL_bestSo_12 : decode cL_bestSo 12 = .ok (.if_icmp .ge 142, 3) := by decide +kernel
theorem dL_bestSo_15 : decode cL_bestSo 15 = .ok (.iload_n 3, 1) := by decide +kernel
theorem dL_bestSo_16 : decode cL_bestSo 16 = .ok (.bipush 16, 2) := by decide +kernel
theorem dL_bestSo_18 : decode cL_bestSo 18 = .ok (.idiv, 1) := by decide +kernel
theorem dL_bestSo_19 : decode cL_bestSo 19 = .ok (.istore 4, 2) := by decide +kernel
theorem dL_bestSo_21 : decode cL_bestSo 21 = .ok (.iload_n 3, 1) := by decide +kernel
theorem dL_bestSo_22 : decode cL_bestSo 22 = .ok (.bipush 16, 2) := by decide +kernel
theorem dL_bestSo_24 : decode cL_bestSo 24 = .ok (.irem, 1) := by decide +kernel
theorem dL_bestSo_25 : decode cL_bestSo 25 = .ok (.istore 5, 2) := by decide +kernel
theorem dL_bestSo_27 : decode cL_bestSo 27 = .ok (.iload 4, 2) := by decide +kernel
theorem dL_bestSo_29 : decode cL_bestSo 29 = .ok (.iload 5, 2) := by decide +kernel
theorem dL_bestSo_31 : decode cL_bestSo 31 = .ok (.if_icmp .ge 117, 3) := by decide +kernel
theorem dL_bestSo_34 : decode cL_bestSo 34 = .ok (.aload_n 0, 1) := by decide +kernel
theorem dL_bestSo_35 : decode cL_bestSo 35 = .ok (.iload 4, 2) := by decide +kernel
theorem dL_bestSo_37 : decode cL_bestSo 37 = .ok (.invokestatic 16, 3) := by decide +kernel
theorem dL_bestSo_40 : decode cL_bestSo 40 = .ok (.ifCond .eq 108, 3) := by decide +kernel
theorem dL_bestSo_43 : decode cL_bestSo 43 = .ok (.aload_n 0, 1) := by decide +kernel
theorem dL_bestSo_44 : decode cL_bestSo 44 = .ok (.iload 5, 2) := by decide +kernel
theorem dL_bestSo_46 : decode cL_bestSo 46 = .ok (.invokestatic 16, 3) := by decide +kernel
theorem dL_bestSo_49 : decode cL_bestSo 49 = .ok (.ifCond .eq 99, 3) := by decide +kernel
theorem dL_bestSo_52 : decode cL_bestSo 52 = .ok (.aload_n 0, 1) := by decide +kernel
theorem dL_bestSo_53 : decode cL_bestSo 53 = .ok (.iload 4, 2) := by decide +kernel
theorem dL_bestSo_55 : decode cL_bestSo 55 = .ok (.bipush 6, 2) := by decide +kernel
theorem dL_bestSo_57 : decode cL_bestSo 57 = .ok (.invokevirtual 10, 3) := by decide +kernel
theorem dL_bestSo_60 : decode cL_bestSo 60 = .ok (.iload 5, 2) := by decide +kernel
theorem dL_bestSo_62 : decode cL_bestSo 62 = .ok (.ishr, 1) := by decide +kernel
theorem dL_bestSo_63 : decode cL_bestSo 63 = .ok (.iconst 1, 1) := by decide +kernel
theorem dL_bestSo_64 : decode cL_bestSo 64 = .ok (.iand, 1) := by decide +kernel
theorem dL_bestSo_65 : decode cL_bestSo 65 = .ok (.ifCond .ne 83, 3) := by decide +kernel
theorem dL_bestSo_68 : decode cL_bestSo 68 = .ok (.aload_n 0, 1) := by decide +kernel
theorem dL_bestSo_69 : decode cL_bestSo 69 = .ok (.iload 4, 2) := by decide +kernel
theorem dL_bestSo_71 : decode cL_bestSo 71 = .ok (.iload 5, 2) := by decide +kernel
theorem dL_bestSo_73 : decode cL_bestSo 73 = .ok (.iconst 1, 1) := by decide +kernel
theorem dL_bestSo_74 : decode cL_bestSo 74 = .ok (.invokevirtual 61, 3) := by decide +kernel
theorem dL_bestSo_77 : decode cL_bestSo 77 = .ok (.istore 6, 2) := by decide +kernel
theorem dL_bestSo_79 : decode cL_bestSo 79 = .ok (.aload_n 0, 1) := by decide +kernel
theorem dL_bestSo_80 : decode cL_bestSo 80 = .ok (.bipush 100, 2) := by decide +kernel
theorem dL_bestSo_82 : decode cL_bestSo 82 = .ok (.invokevirtual 52, 3) := by decide +kernel
theorem dL_bestSo_85 : decode cL_bestSo 85 = .ok (.istore 7, 2) := by decide +kernel
theorem dL_bestSo_87 : decode cL_bestSo 87 = .ok (.aload_n 0, 1) := by decide +kernel
theorem dL_bestSo_88 : decode cL_bestSo 88 = .ok (.invokevirtual 35, 3) := by decide +kernel
theorem dL_bestSo_91 : decode cL_bestSo 91 = .ok (.istore 8, 2) := by decide +kernel
theorem dL_bestSo_93 : decode cL_bestSo 93 = .ok (.iload_n 1, 1) := by decide +kernel
theorem dL_bestSo_94 : decode cL_bestSo 94 = .ok (.ifCond .lt 9, 3) := by decide +kernel
theorem dL_bestSo_97 : decode cL_bestSo 97 = .ok (.iload 8, 2) := by decide +kernel
theorem dL_bestSo_99 : decode cL_bestSo 99 = .ok (.iload_n 2, 1) := by decide +kernel
theorem dL_bestSo_100 : decode cL_bestSo 100 = .ok (.if_icmp .ge 7, 3) := by decide +kernel
theorem dL_bestSo_103 : decode cL_bestSo 103 = .ok (.iload_n 3, 1) := by decide +kernel
theorem dL_bestSo_104 : decode cL_bestSo 104 = .ok (.goto 4, 3) := by decide +kernel
theorem dL_bestSo_107 : decode cL_bestSo 107 = .ok (.iload_n 1, 1) := by decide +kernel
theorem dL_bestSo_108 : decode cL_bestSo 108 = .ok (.istore_n 1, 1) := by decide +kernel
theorem dL_bestSo_109 : decode cL_bestSo 109 = .ok (.iload_n 1, 1) := by decide +kernel
theorem dL_bestSo_110 : decode cL_bestSo 110 = .ok (.iload_n 3, 1) := by decide +kernel
theorem dL_bestSo_111 : decode cL_bestSo 111 = .ok (.if_icmp .ne 8, 3) := by decide +kernel
theorem dL_bestSo_114 : decode cL_bestSo 114 = .ok (.iload 8, 2) := by decide +kernel
theorem dL_bestSo_116 : decode cL_bestSo 116 = .ok (.goto 4, 3) := by decide +kernel
theorem dL_bestSo_119 : decode cL_bestSo 119 = .ok (.iload_n 2, 1) := by decide +kernel
theorem dL_bestSo_120 : decode cL_bestSo 120 = .ok (.istore_n 2, 1) := by decide +kernel
theorem dL_bestSo_121 : decode cL_bestSo 121 = .ok (.iload 6, 2) := by decide +kernel
theorem dL_bestSo_123 : decode cL_bestSo 123 = .ok (.iconst 1, 1) := by decide +kernel
theorem dL_bestSo_124 : decode cL_bestSo 124 = .ok (.if_icmp .lt 22, 3) := by decide +kernel
theorem dL_bestSo_127 : decode cL_bestSo 127 = .ok (.iload 7, 2) := by decide +kernel
theorem dL_bestSo_129 : decode cL_bestSo 129 = .ok (.ifCond .lt 17, 3) := by decide +kernel
theorem dL_bestSo_132 : decode cL_bestSo 132 = .ok (.aload_n 0, 1) := by decide +kernel
theorem dL_bestSo_133 : decode cL_bestSo 133 = .ok (.invokevirtual 55, 3) := by decide +kernel
theorem dL_bestSo_136 : decode cL_bestSo 136 = .ok (.ifCond .lt 10, 3) := by decide +kernel
theorem dL_bestSo_139 : decode cL_bestSo 139 = .ok (.aload_n 0, 1) := by decide +kernel
theorem dL_bestSo_140 : decode cL_bestSo 140 = .ok (.invokevirtual 55, 3) := by decide +kernel
theorem dL_bestSo_143 : decode cL_bestSo 143 = .ok (.ifCond .ge 5, 3) := by decide +kernel
theorem dL_bestSo_146 : decode cL_bestSo 146 = .ok (.iconst 0, 1) := by decide +kernel
theorem dL_bestSo_147 : decode cL_bestSo 147 = .ok (.ireturn, 1) := by decide +kernel
theorem dL_bestSo_148 : decode cL_bestSo 148 = .ok (.iinc 3 1, 3) := by decide +kernel
theorem dL_bestSo_151 : decode cL_bestSo 151 = .ok (.goto (-143), 3) := by decide +kernel
theorem dL_bestSo_154 : decode cL_bestSo 154 = .ok (.iload_n 1, 1) := by decide +kernel
theorem dL_bestSo_155 : decode cL_bestSo 155 = .ok (.ifCond .ge 31, 3) := by decide +kernel
theorem dL_bestSo_158 : decode cL_bestSo 158 = .ok (.aload_n 0, 1) := by decide +kernel
theorem dL_bestSo_159 : decode cL_bestSo 159 = .ok (.iconst 0, 1) := by decide +kernel
theorem dL_bestSo_160 : decode cL_bestSo 160 = .ok (.invokevirtual 65, 3) := by decide +kernel
theorem dL_bestSo_163 : decode cL_bestSo 163 = .ok (.bipush (-5), 2) := by decide +kernel
theorem dL_bestSo_165 : decode cL_bestSo 165 = .ok (.if_icmp .ne 17, 3) := by decide +kernel
theorem dL_bestSo_168 : decode cL_bestSo 168 = .ok (.aload_n 0, 1) := by decide +kernel
theorem dL_bestSo_169 : decode cL_bestSo 169 = .ok (.iconst 2, 1) := by decide +kernel
theorem dL_bestSo_170 : decode cL_bestSo 170 = .ok (.invokevirtual 65, 3) := by decide +kernel
theorem dL_bestSo_173 : decode cL_bestSo 173 = .ok (.bipush (-5), 2) := by decide +kernel
theorem dL_bestSo_175 : decode cL_bestSo 175 = .ok (.if_icmp .ne 7, 3) := by decide +kernel
theorem dL_bestSo_178 : decode cL_bestSo 178 = .ok (.iconst 1, 1) := by decide +kernel
theorem dL_bestSo_179 : decode cL_bestSo 179 = .ok (.goto 45, 3) := by decide +kernel
theorem dL_bestSo_182 : decode cL_bestSo 182 = .ok (.iconst 0, 1) := by decide +kernel
theorem dL_bestSo_183 : decode cL_bestSo 183 = .ok (.goto 41, 3) := by decide +kernel
theorem dL_bestSo_186 : decode cL_bestSo 186 = .ok (.aload_n 0, 1) := by decide +kernel
theorem dL_bestSo_187 : decode cL_bestSo 187 = .ok (.iconst 0, 1) := by decide +kernel
theorem dL_bestSo_188 : decode cL_bestSo 188 = .ok (.invokevirtual 65, 3) := by decide +kernel
theorem dL_bestSo_191 : decode cL_bestSo 191 = .ok (.iload_n 1, 1) := by decide +kernel
theorem dL_bestSo_192 : decode cL_bestSo 192 = .ok (.bipush 16, 2) := by decide +kernel
theorem dL_bestSo_194 : decode cL_bestSo 194 = .ok (.idiv, 1) := by decide +kernel
theorem dL_bestSo_195 : decode cL_bestSo 195 = .ok (.if_icmp .ne 28, 3) := by decide +kernel
theorem dL_bestSo_198 : decode cL_bestSo 198 = .ok (.aload_n 0, 1) := by decide +kernel
theorem dL_bestSo_199 : decode cL_bestSo 199 = .ok (.iconst 1, 1) := by decide +kernel
theorem dL_bestSo_200 : decode cL_bestSo 200 = .ok (.invokevirtual 65, 3) := by decide +kernel
theorem dL_bestSo_203 : decode cL_bestSo 203 = .ok (.iload_n 1, 1) := by decide +kernel
theorem dL_bestSo_204 : decode cL_bestSo 204 = .ok (.bipush 16, 2) := by decide +kernel
theorem dL_bestSo_206 : decode cL_bestSo 206 = .ok (.irem, 1) := by decide +kernel
theorem dL_bestSo_207 : decode cL_bestSo 207 = .ok (.if_icmp .ne 16, 3) := by decide +kernel
theorem dL_bestSo_210 : decode cL_bestSo 210 = .ok (.aload_n 0, 1) := by decide +kernel
theorem dL_bestSo_211 : decode cL_bestSo 211 = .ok (.iconst 2, 1) := by decide +kernel
theorem dL_bestSo_212 : decode cL_bestSo 212 = .ok (.invokevirtual 65, 3) := by decide +kernel
theorem dL_bestSo_215 : decode cL_bestSo 215 = .ok (.iload_n 2, 1) := by decide +kernel
theorem dL_bestSo_216 : decode cL_bestSo 216 = .ok (.if_icmp .ne 7, 3) := by decide +kernel
theorem dL_bestSo_219 : decode cL_bestSo 219 = .ok (.iconst 1, 1) := by decide +kernel
theorem dL_bestSo_220 : decode cL_bestSo 220 = .ok (.goto 4, 3) := by decide +kernel
theorem dL_bestSo_223 : decode cL_bestSo 223 = .ok (.iconst 0, 1) := by decide +kernel
theorem dL_bestSo_224 : decode cL_bestSo 224 = .ok (.ireturn, 1) := by decide +kernel
theorem dL_passSo_0 : decode cL_passSo 0 = .ok (.aload_n 0, 1) := by decide +kernel
theorem dL_passSo_1 : decode cL_passSo 1 = .ok (.iload_n 1, 1) := by decide +kernel
theorem dL_passSo_2 : decode cL_passSo 2 = .ok (.invokevirtual 52, 3) := by decide +kernel
theorem dL_passSo_5 : decode cL_passSo 5 = .ok (.istore_n 3, 1) := by decide +kernel
theorem dL_passSo_6 : decode cL_passSo 6 = .ok (.aload_n 0, 1) := by decide +kernel
theorem dL_passSo_7 : decode cL_passSo 7 = .ok (.iload_n 2, 1) := by decide +kernel
theorem dL_passSo_8 : decode cL_passSo 8 = .ok (.invokevirtual 52, 3) := by decide +kernel
theorem dL_passSo_11 : decode cL_passSo 11 = .ok (.istore 4, 2) := by decide +kernel
theorem dL_passSo_13 : decode cL_passSo 13 = .ok (.aload_n 0, 1) := by decide +kernel
theorem dL_passSo_14 : decode cL_passSo 14 = .ok (.invokestatic 68, 3) := by decide +kernel
theorem dL_passSo_17 : decode cL_passSo 17 = .ok (.lstore 5, 2) := by decide +kernel
theorem dL_passSo_19 : decode cL_passSo 19 = .ok (.iload_n 3, 1) := by decide +kernel
theorem dL_passSo_20 : decode cL_passSo 20 = .ok (.ifCond .lt 26, 3) := by decide +kernel
theorem dL_passSo_23 : decode cL_passSo 23 = .ok (.iload 4, 2) := by decide +kernel
theorem dL_passSo_25 : decode cL_passSo 25 = .ok (.ifCond .lt 21, 3) := by decide +kernel
theorem dL_passSo_28 : decode cL_passSo 28 = .ok (.aload_n 0, 1) := by decide +kernel
theorem dL_passSo_29 : decode cL_passSo 29 = .ok (.invokevirtual 55, 3) := by decide +kernel
theorem dL_passSo_32 : decode cL_passSo 32 = .ok (.ifCond .lt 14, 3) := by decide +kernel
theorem dL_passSo_35 : decode cL_passSo 35 = .ok (.aload_n 0, 1) := by decide +kernel
theorem dL_passSo_36 : decode cL_passSo 36 = .ok (.invokevirtual 55, 3) := by decide +kernel
theorem dL_passSo_39 : decode cL_passSo 39 = .ok (.ifCond .lt 7, 3) := by decide +kernel
theorem dL_passSo_42 : decode cL_passSo 42 = .ok (.iconst 1, 1) := by decide +kernel
theorem dL_passSo_43 : decode cL_passSo 43 = .ok (.goto 4, 3) := by decide +kernel
theorem dL_passSo_46 : decode cL_passSo 46 = .ok (.iconst 0, 1) := by decide +kernel
theorem dL_passSo_47 : decode cL_passSo 47 = .ok (.istore 7, 2) := by decide +kernel
theorem dL_passSo_49 : decode cL_passSo 49 = .ok (.iload 7, 2) := by decide +kernel
theorem dL_passSo_51 : decode cL_passSo 51 = .ok (.ifCond .eq 31, 3) := by decide +kernel
theorem dL_passSo_54 : decode cL_passSo 54 = .ok (.aload_n 0, 1) := by decide +kernel
theorem dL_passSo_55 : decode cL_passSo 55 = .ok (.iload_n 1, 1) := by decide +kernel
theorem dL_passSo_56 : decode cL_passSo 56 = .ok (.iload_n 2, 1) := by decide +kernel
theorem dL_passSo_57 : decode cL_passSo 57 = .ok (.iadd, 1) := by decide +kernel
theorem dL_passSo_58 : decode cL_passSo 58 = .ok (.invokevirtual 52, 3) := by decide +kernel
theorem dL_passSo_61 : decode cL_passSo 61 = .ok (.iload_n 3, 1) := by decide +kernel
theorem dL_passSo_62 : decode cL_passSo 62 = .ok (.iload 4, 2) := by decide +kernel
theorem dL_passSo_64 : decode cL_passSo 64 = .ok (.iadd, 1) := by decide +kernel
theorem dL_passSo_65 : decode cL_passSo 65 = .ok (.if_icmp .ne 17, 3) := by decide +kernel
theorem dL_passSo_68 : decode cL_passSo 68 = .ok (.aload_n 0, 1) := by decide +kernel
theorem dL_passSo_69 : decode cL_passSo 69 = .ok (.invokestatic 68, 3) := by decide +kernel
theorem dL_passSo_72 : decode cL_passSo 72 = .ok (.lload 5, 2) := by decide +kernel
theorem dL_passSo_74 : decode cL_passSo 74 = .ok (.lcmp, 1) := by decide +kernel
theorem dL_passSo_75 : decode cL_passSo 75 = .ok (.ifCond .ne 7, 3) := by decide +kernel
theorem dL_passSo_78 : decode cL_passSo 78 = .ok (.iconst 1, 1) := by decide +kernel
theorem dL_passSo_79 : decode cL_passSo 79 = .ok (.goto 4, 3) := by decide +kernel
theorem dL_passSo_82 : decode cL_passSo 82 = .ok (.iconst 0, 1) := by decide +kernel
theorem dL_passSo_83 : decode cL_passSo 83 = .ok (.ireturn, 1) := by decide +kernel
theorem dL_twins_0 : decode cL_twins 0 = .ok (.aload_n 0, 1) := by decide +kernel
theorem dL_twins_1 : decode cL_twins 1 = .ok (.iconst 1, 1) := by decide +kernel
theorem dL_twins_2 : decode cL_twins 2 = .ok (.invokevirtual 22, 3) := by decide +kernel
theorem dL_twins_5 : decode cL_twins 5 = .ok (.bipush 14, 2) := by decide +kernel
theorem dL_twins_7 : decode cL_twins 7 = .ok (.if_icmp .le 5, 3) := by decide +kernel
theorem dL_twins_10 : decode cL_twins 10 = .ok (.iconst 1, 1) := by decide +kernel
theorem dL_twins_11 : decode cL_twins 11 = .ok (.ireturn, 1) := by decide +kernel
theorem dL_twins_12 : decode cL_twins 12 = .ok (.iload_n 1, 1) := by decide +kernel
theorem dL_twins_13 : decode cL_twins 13 = .ok (.aload_n 0, 1) := by decide +kernel
theorem dL_twins_14 : decode cL_twins 14 = .ok (.bipush 9, 2) := by decide +kernel
theorem dL_twins_16 : decode cL_twins 16 = .ok (.invokevirtual 22, 3) := by decide +kernel
theorem dL_twins_19 : decode cL_twins 19 = .ok (.invokestatic 72, 3) := by decide +kernel
theorem dL_twins_22 : decode cL_twins 22 = .ok (.istore_n 2, 1) := by decide +kernel
theorem dL_twins_23 : decode cL_twins 23 = .ok (.bipush 50, 2) := by decide +kernel
theorem dL_twins_25 : decode cL_twins 25 = .ok (.iload_n 1, 1) := by decide +kernel
theorem dL_twins_26 : decode cL_twins 26 = .ok (.bipush 7, 2) := by decide +kernel
theorem dL_twins_28 : decode cL_twins 28 = .ok (.ishr, 1) := by decide +kernel
theorem dL_twins_29 : decode cL_twins 29 = .ok (.bipush 101, 2) := by decide +kernel
theorem dL_twins_31 : decode cL_twins 31 = .ok (.invokestatic 72, 3) := by decide +kernel
theorem dL_twins_34 : decode cL_twins 34 = .ok (.iadd, 1) := by decide +kernel
theorem dL_twins_35 : decode cL_twins 35 = .ok (.istore_n 3, 1) := by decide +kernel
theorem dL_twins_36 : decode cL_twins 36 = .ok (.aload_n 0, 1) := by decide +kernel
theorem dL_twins_37 : decode cL_twins 37 = .ok (.iload_n 2, 1) := by decide +kernel
theorem dL_twins_38 : decode cL_twins 38 = .ok (.iload_n 3, 1) := by decide +kernel
theorem dL_twins_39 : decode cL_twins 39 = .ok (.invokevirtual 75, 3) := by decide +kernel
theorem dL_twins_42 : decode cL_twins 42 = .ok (.istore 4, 2) := by decide +kernel
theorem dL_twins_44 : decode cL_twins 44 = .ok (.aload_n 0, 1) := by decide +kernel
theorem dL_twins_45 : decode cL_twins 45 = .ok (.iload_n 2, 1) := by decide +kernel
theorem dL_twins_46 : decode cL_twins 46 = .ok (.iload_n 3, 1) := by decide +kernel
theorem dL_twins_47 : decode cL_twins 47 = .ok (.invokevirtual 75, 3) := by decide +kernel
theorem dL_twins_50 : decode cL_twins 50 = .ok (.istore 5, 2) := by decide +kernel
theorem dL_twins_52 : decode cL_twins 52 = .ok (.iconst 0, 1) := by decide +kernel
theorem dL_twins_53 : decode cL_twins 53 = .ok (.istore 6, 2) := by decide +kernel
theorem dL_twins_55 : decode cL_twins 55 = .ok (.iload 6, 2) := by decide +kernel
theorem dL_twins_57 : decode cL_twins 57 = .ok (.bipush 16, 2) := by decide +kernel
theorem dL_twins_59 : decode cL_twins 59 = .ok (.if_icmp .ge 71, 3) := by decide +kernel
theorem dL_twins_62 : decode cL_twins 62 = .ok (.iload 6, 2) := by decide +kernel
theorem dL_twins_64 : decode cL_twins 64 = .ok (.iload 4, 2) := by decide +kernel
theorem dL_twins_66 : decode cL_twins 66 = .ok (.if_icmp .eq 58, 3) := by decide +kernel
theorem dL_twins_69 : decode cL_twins 69 = .ok (.iload 6, 2) := by decide +kernel
theorem dL_twins_71 : decode cL_twins 71 = .ok (.iload 5, 2) := by decide +kernel
theorem dL_twins_73 : decode cL_twins 73 = .ok (.if_icmp .eq 51, 3) := by decide +kernel
theorem dL_twins_76 : decode cL_twins 76 = .ok (.aload_n 0, 1) := by decide +kernel
theorem dL_twins_77 : decode cL_twins 77 = .ok (.iload 6, 2) := by decide +kernel
theorem dL_twins_79 : decode cL_twins 79 = .ok (.invokestatic 26, 3) := by decide +kernel
theorem dL_twins_82 : decode cL_twins 82 = .ok (.ifCond .eq 42, 3) := by decide +kernel
theorem dL_twins_85 : decode cL_twins 85 = .ok (.iload_n 1, 1) := by decide +kernel
theorem dL_twins_86 : decode cL_twins 86 = .ok (.iload 6, 2) := by decide +kernel
theorem dL_twins_88 : decode cL_twins 88 = .ok (.ishr, 1) := by decide +kernel
theorem dL_twins_89 : decode cL_twins 89 = .ok (.iconst 3, 1) := by decide +kernel
theorem dL_twins_90 : decode cL_twins 90 = .ok (.invokestatic 72, 3) := by decide +kernel
theorem dL_twins_93 : decode cL_twins 93 = .ok (.ifCond .ne 31, 3) := by decide +kernel
theorem dL_twins_96 : decode cL_twins 96 = .ok (.aload_n 0, 1) := by decide +kernel
theorem dL_twins_97 : decode cL_twins 97 = .ok (.iload 4, 2) := by decide +kernel
theorem dL_twins_99 : decode cL_twins 99 = .ok (.iload 6, 2) := by decide +kernel
theorem dL_twins_101 : decode cL_twins 101 = .ok (.iconst 1, 1) := by decide +kernel
theorem dL_twins_102 : decode cL_twins 102 = .ok (.invokevirtual 61, 3) := by decide +kernel
theorem dL_twins_105 : decode cL_twins 105 = .ok (.iconst 1, 1) := by decide +kernel
theorem dL_twins_106 : decode cL_twins 106 = .ok (.if_icmp .lt 16, 3) := by decide +kernel
theorem dL_twins_109 : decode cL_twins 109 = .ok (.aload_n 0, 1) := by decide +kernel
theorem dL_twins_110 : decode cL_twins 110 = .ok (.iload 5, 2) := by decide +kernel
theorem dL_twins_112 : decode cL_twins 112 = .ok (.iload 6, 2) := by decide +kernel
theorem dL_twins_114 : decode cL_twins 114 = .ok (.iconst 1, 1) := by decide +kernel
theorem dL_twins_115 : decode cL_twins 115 = .ok (.invokevirtual 61, 3) := by decide +kernel
theorem dL_twins_118 : decode cL_twins 118 = .ok (.iconst 1, 1) := by decide +kernel
theorem dL_twins_119 : decode cL_twins 119 = .ok (.if_icmp .ge 5, 3) := by decide +kernel
theorem dL_twins_122 : decode cL_twins 122 = .ok (.iconst 0, 1) := by decide +kernel
theorem dL_twins_123 : decode cL_twins 123 = .ok (.ireturn, 1) := by decide +kernel
theorem dL_twins_124 : decode cL_twins 124 = .ok (.iinc 6 1, 3) := by decide +kernel
theorem dL_twins_127 : decode cL_twins 127 = .ok (.goto (-72), 3) := by decide +kernel
theorem dL_twins_130 : decode cL_twins 130 = .ok (.iload_n 1, 1) := by decide +kernel
theorem dL_twins_131 : decode cL_twins 131 = .ok (.iconst 3, 1) := by decide +kernel
theorem dL_twins_132 : decode cL_twins 132 = .ok (.ishr, 1) := by decide +kernel
theorem dL_twins_133 : decode cL_twins 133 = .ok (.iconst 2, 1) := by decide +kernel
theorem dL_twins_134 : decode cL_twins 134 = .ok (.invokestatic 72, 3) := by decide +kernel
theorem dL_twins_137 : decode cL_twins 137 = .ok (.ifCond .ne 18, 3) := by decide +kernel
theorem dL_twins_140 : decode cL_twins 140 = .ok (.aload_n 0, 1) := by decide +kernel
theorem dL_twins_141 : decode cL_twins 141 = .ok (.iload 4, 2) := by decide +kernel
theorem dL_twins_143 : decode cL_twins 143 = .ok (.iload 5, 2) := by decide +kernel
theorem dL_twins_145 : decode cL_twins 145 = .ok (.iconst 1, 1) := by decide +kernel
theorem dL_twins_146 : decode cL_twins 146 = .ok (.invokevirtual 61, 3) := by decide +kernel
theorem dL_twins_149 : decode cL_twins 149 = .ok (.iconst 1, 1) := by decide +kernel
theorem dL_twins_150 : decode cL_twins 150 = .ok (.if_icmp .ge 5, 3) := by decide +kernel
theorem dL_twins_153 : decode cL_twins 153 = .ok (.iconst 0, 1) := by decide +kernel
theorem dL_twins_154 : decode cL_twins 154 = .ok (.ireturn, 1) := by decide +kernel
theorem dL_twins_155 : decode cL_twins 155 = .ok (.iconst 0, 1) := by decide +kernel
theorem dL_twins_156 : decode cL_twins 156 = .ok (.istore 6, 2) := by decide +kernel
theorem dL_twins_158 : decode cL_twins 158 = .ok (.iload 6, 2) := by decide +kernel
theorem dL_twins_160 : decode cL_twins 160 = .ok (.iconst 5, 1) := by decide +kernel
theorem dL_twins_161 : decode cL_twins 161 = .ok (.if_icmp .ge 128, 3) := by decide +kernel
theorem dL_twins_164 : decode cL_twins 164 = .ok (.aload_n 0, 1) := by decide +kernel
theorem dL_twins_165 : decode cL_twins 165 = .ok (.iconst 1, 1) := by decide +kernel
theorem dL_twins_166 : decode cL_twins 166 = .ok (.iload_n 1, 1) := by decide +kernel
theorem dL_twins_167 : decode cL_twins 167 = .ok (.iconst 3, 1) := by decide +kernel
theorem dL_twins_168 : decode cL_twins 168 = .ok (.iload 6, 2) := by decide +kernel
theorem dL_twins_170 : decode cL_twins 170 = .ok (.imul, 1) := by decide +kernel
theorem dL_twins_171 : decode cL_twins 171 = .ok (.ishr, 1) := by decide +kernel
theorem dL_twins_172 : decode cL_twins 172 = .ok (.bipush 90, 2) := by decide +kernel
theorem dL_twins_174 : decode cL_twins 174 = .ok (.invokestatic 72, 3) := by decide +kernel
theorem dL_twins_177 : decode cL_twins 177 = .ok (.iadd, 1) := by decide +kernel
theorem dL_twins_178 : decode cL_twins 178 = .ok (.invokevirtual 52, 3) := by decide +kernel
theorem dL_twins_181 : decode cL_twins 181 = .ok (.istore 7, 2) := by decide +kernel
theorem dL_twins_183 : decode cL_twins 183 = .ok (.iload 7, 2) := by decide +kernel
theorem dL_twins_185 : decode cL_twins 185 = .ok (.ifCond .lt 88, 3) := by decide +kernel
theorem dL_twins_188 : decode cL_twins 188 = .ok (.aload_n 0, 1) := by decide +kernel
theorem dL_twins_189 : decode cL_twins 189 = .ok (.iload 4, 2) := by decide +kernel
theorem dL_twins_191 : decode cL_twins 191 = .ok (.iconst 0, 1) := by decide +kernel
theorem dL_twins_192 : decode cL_twins 192 = .ok (.invokevirtual 10, 3) := by decide +kernel
theorem dL_twins_195 : decode cL_twins 195 = .ok (.aload_n 0, 1) := by decide +kernel
theorem dL_twins_196 : decode cL_twins 196 = .ok (.iload 5, 2) := by decide +kernel
theorem dL_twins_198 : decode cL_twins 198 = .ok (.iconst 0, 1) := by decide +kernel
theorem dL_twins_199 : decode cL_twins 199 = .ok (.invokevirtual 10, 3) := by decide +kernel
theorem dL_twins_202 : decode cL_twins 202 = .ok (.if_icmp .ne 71, 3) := by decide +kernel
theorem dL_twins_205 : decode cL_twins 205 = .ok (.aload_n 0, 1) := by decide +kernel
theorem dL_twins_206 : decode cL_twins 206 = .ok (.iload 4, 2) := by decide +kernel
theorem dL_twins_208 : decode cL_twins 208 = .ok (.iconst 4, 1) := by decide +kernel
theorem dL_twins_209 : decode cL_twins 209 = .ok (.invokevirtual 10, 3) := by decide +kernel
theorem dL_twins_212 : decode cL_twins 212 = .ok (.aload_n 0, 1) := by decide +kernel
theorem dL_twins_213 : decode cL_twins 213 = .ok (.iload 5, 2) := by decide +kernel
theorem dL_twins_215 : decode cL_twins 215 = .ok (.iconst 4, 1) := by decide +kernel
theorem dL_twins_216 : decode cL_twins 216 = .ok (.invokevirtual 10, 3) := by decide +kernel
theorem dL_twins_219 : decode cL_twins 219 = .ok (.if_icmp .ne 54, 3) := by decide +kernel
theorem dL_twins_222 : decode cL_twins 222 = .ok (.aload_n 0, 1) := by decide +kernel
theorem dL_twins_223 : decode cL_twins 223 = .ok (.iload 4, 2) := by decide +kernel
theorem dL_twins_225 : decode cL_twins 225 = .ok (.iconst 5, 1) := by decide +kernel
theorem dL_twins_226 : decode cL_twins 226 = .ok (.invokevirtual 10, 3) := by decide +kernel
theorem dL_twins_229 : decode cL_twins 229 = .ok (.aload_n 0, 1) := by decide +kernel
theorem dL_twins_230 : decode cL_twins 230 = .ok (.iload 5, 2) := by decide +kernel
theorem dL_twins_232 : decode cL_twins 232 = .ok (.iconst 5, 1) := by decide +kernel
theorem dL_twins_233 : decode cL_twins 233 = .ok (.invokevirtual 10, 3) := by decide +kernel
theorem dL_twins_236 : decode cL_twins 236 = .ok (.if_icmp .ne 37, 3) := by decide +kernel
theorem dL_twins_239 : decode cL_twins 239 = .ok (.aload_n 0, 1) := by decide +kernel
theorem dL_twins_240 : decode cL_twins 240 = .ok (.iload 4, 2) := by decide +kernel
theorem dL_twins_242 : decode cL_twins 242 = .ok (.bipush 9, 2) := by decide +kernel
theorem dL_twins_244 : decode cL_twins 244 = .ok (.invokevirtual 10, 3) := by decide +kernel
theorem dL_twins_247 : decode cL_twins 247 = .ok (.aload_n 0, 1) := by decide +kernel
theorem dL_twins_248 : decode cL_twins 248 = .ok (.iload 5, 2) := by decide +kernel
theorem dL_twins_250 : decode cL_twins 250 = .ok (.bipush 9, 2) := by decide +kernel
theorem dL_twins_252 : decode cL_twins 252 = .ok (.invokevirtual 10, 3) := by decide +kernel
theorem dL_twins_255 : decode cL_twins 255 = .ok (.if_icmp .ne 18, 3) := by decide +kernel
theorem dL_twins_258 : decode cL_twins 258 = .ok (.aload_n 0, 1) := by decide +kernel
theorem dL_twins_259 : decode cL_twins 259 = .ok (.iload 4, 2) := by decide +kernel
theorem dL_twins_261 : decode cL_twins 261 = .ok (.iload 5, 2) := by decide +kernel
theorem dL_twins_263 : decode cL_twins 263 = .ok (.invokevirtual 29, 3) := by decide +kernel
theorem dL_twins_266 : decode cL_twins 266 = .ok (.ifCond .ne 7, 3) := by decide +kernel
theorem dL_twins_269 : decode cL_twins 269 = .ok (.iconst 1, 1) := by decide +kernel
theorem dL_twins_270 : decode cL_twins 270 = .ok (.goto 4, 3) := by decide +kernel
theorem dL_twins_273 : decode cL_twins 273 = .ok (.iconst 0, 1) := by decide +kernel
theorem dL_twins_274 : decode cL_twins 274 = .ok (.istore 8, 2) := by decide +kernel
theorem dL_twins_276 : decode cL_twins 276 = .ok (.iload 8, 2) := by decide +kernel
theorem dL_twins_278 : decode cL_twins 278 = .ok (.ifCond .ne 5, 3) := by decide +kernel
theorem dL_twins_281 : decode cL_twins 281 = .ok (.iconst 0, 1) := by decide +kernel
theorem dL_twins_282 : decode cL_twins 282 = .ok (.ireturn, 1) := by decide +kernel
theorem dL_twins_283 : decode cL_twins 283 = .ok (.iinc 6 1, 3) := by decide +kernel
theorem dL_twins_286 : decode cL_twins 286 = .ok (.goto (-128), 3) := by decide +kernel
theorem dL_twins_289 : decode cL_twins 289 = .ok (.iconst 1, 1) := by decide +kernel
theorem dL_twins_290 : decode cL_twins 290 = .ok (.ireturn, 1) := by decide +kernel
theorem dL_act_0 : decode cL_act 0 = .ok (.iload_n 2, 1) := by decide +kernel
theorem dL_act_1 : decode cL_act 1 = .ok (.bipush 6, 2) := by decide +kernel
theorem dL_act_3 : decode cL_act 3 = .ok (.invokestatic 72, 3) := by decide +kernel
theorem dL_act_6 : decode cL_act 6 = .ok (.istore_n 3, 1) := by decide +kernel
theorem dL_act_7 : decode cL_act 7 = .ok (.iload_n 2, 1) := by decide +kernel
theorem dL_act_8 : decode cL_act 8 = .ok (.iconst 3, 1) := by decide +kernel
theorem dL_act_9 : decode cL_act 9 = .ok (.ishr, 1) := by decide +kernel
theorem dL_act_10 : decode cL_act 10 = .ok (.bipush 6, 2) := by decide +kernel
theorem dL_act_12 : decode cL_act 12 = .ok (.invokestatic 72, 3) := by decide +kernel
theorem dL_act_15 : decode cL_act 15 = .ok (.istore 4, 2) := by decide +kernel
theorem dL_act_17 : decode cL_act 17 = .ok (.iload_n 1, 1) := by decide +kernel
theorem dL_act_18 : decode cL_act 18 = .ok (.bipush 15, 2) := by decide +kernel
theorem dL_act_20 : decode cL_act 20 = .ok (.invokestatic 72, 3) := by decide +kernel
theorem dL_act_23 : decode cL_act 23 = .ok (.tableswitch 707 0 13 #[69, 69, 171, 307, 388, 388, 432, 432, 432, 451, 533, 642, 666, 686], 69) := by decide +kernel
theorem dL_act_92 : decode cL_act 92 = .ok (.aload_n 0, 1) := by decide +kernel
theorem dL_act_93 : decode cL_act 93 = .ok (.iconst 1, 1) := by decide +kernel
theorem dL_act_94 : decode cL_act 94 = .ok (.invokevirtual 22, 3) := by decide +kernel
theorem dL_act_97 : decode cL_act 97 = .ok (.istore 5, 2) := by decide +kernel
theorem dL_act_99 : decode cL_act 99 = .ok (.aload_n 0, 1) := by decide +kernel
theorem dL_act_100 : decode cL_act 100 = .ok (.iload_n 2, 1) := by decide +kernel
theorem dL_act_101 : decode cL_act 101 = .ok (.iconst 2, 1) := by decide +kernel
theorem dL_act_102 : decode cL_act 102 = .ok (.ishr, 1) := by decide +kernel
theorem dL_act_103 : decode cL_act 103 = .ok (.aload_n 0, 1) := by decide +kernel
theorem dL_act_104 : decode cL_act 104 = .ok (.bipush 9, 2) := by decide +kernel
theorem dL_act_106 : decode cL_act 106 = .ok (.invokevirtual 22, 3) := by decide +kernel
theorem dL_act_109 : decode cL_act 109 = .ok (.invokestatic 72, 3) := by decide +kernel
theorem dL_act_112 : decode cL_act 112 = .ok (.bipush 50, 2) := by decide +kernel
theorem dL_act_114 : decode cL_act 114 = .ok (.iload_n 2, 1) := by decide +kernel
theorem dL_act_115 : decode cL_act 115 = .ok (.bipush 9, 2) := by decide +kernel
theorem dL_act_117 : decode cL_act 117 = .ok (.ishr, 1) := by decide +kernel
theorem dL_act_118 : decode cL_act 118 = .ok (.bipush 101, 2) := by decide +kernel
theorem dL_act_120 : decode cL_act 120 = .ok (.invokestatic 72, 3) := by decide +kernel
theorem dL_act_123 : decode cL_act 123 = .ok (.iadd, 1) := by decide +kernel
theorem dL_act_124 : decode cL_act 124 = .ok (.invokevirtual 75, 3) := by decide +kernel
theorem dL_act_127 : decode cL_act 127 = .ok (.istore 6, 2) := by decide +kernel
theorem dL_act_129 : decode cL_act 129 = .ok (.iload 5, 2) := by decide +kernel
theorem dL_act_131 : decode cL_act 131 = .ok (.bipush 16, 2) := by decide +kernel
theorem dL_act_133 : decode cL_act 133 = .ok (.if_icmp .ne 18, 3) := by decide +kernel
theorem dL_act_136 : decode cL_act 136 = .ok (.iload 6, 2) := by decide +kernel
theorem dL_act_138 : decode cL_act 138 = .ok (.bipush (-3), 2) := by decide +kernel
theorem dL_act_140 : decode cL_act 140 = .ok (.if_icmp .ne 7, 3) := by decide +kernel
theorem dL_act_143 : decode cL_act 143 = .ok (.iconst 1, 1) := by decide +kernel
theorem dL_act_144 : decode cL_act 144 = .ok (.goto 49, 3) := by decide +kernel
theorem dL_act_147 : decode cL_act 147 = .ok (.iconst 0, 1) := by decide +kernel
theorem dL_act_148 : decode cL_act 148 = .ok (.goto 45, 3) := by decide +kernel
theorem dL_act_151 : decode cL_act 151 = .ok (.iload 6, 2) := by decide +kernel
theorem dL_act_153 : decode cL_act 153 = .ok (.ifCond .lt 39, 3) := by decide +kernel
theorem dL_act_156 : decode cL_act 156 = .ok (.aload_n 0, 1) := by decide +kernel
theorem dL_act_157 : decode cL_act 157 = .ok (.iconst 1, 1) := by decide +kernel
theorem dL_act_158 : decode cL_act 158 = .ok (.invokevirtual 22, 3) := by decide +kernel
theorem dL_act_161 : decode cL_act 161 = .ok (.iload 5, 2) := by decide +kernel
theorem dL_act_163 : decode cL_act 163 = .ok (.iconst 1, 1) := by decide +kernel
theorem dL_act_164 : decode cL_act 164 = .ok (.iadd, 1) := by decide +kernel
theorem dL_act_165 : decode cL_act 165 = .ok (.if_icmp .ne 27, 3) := by decide +kernel
theorem dL_act_168 : decode cL_act 168 = .ok (.aload_n 0, 1) := by decide +kernel
theorem dL_act_169 : decode cL_act 169 = .ok (.iload 6, 2) := by decide +kernel
theorem dL_act_171 : decode cL_act 171 = .ok (.invokestatic 16, 3) := by decide +kernel
theorem dL_act_174 : decode cL_act 174 = .ok (.ifCond .eq 18, 3) := by decide +kernel
theorem dL_act_177 : decode cL_act 177 = .ok (.aload_n 0, 1) := by decide +kernel
theorem dL_act_178 : decode cL_act 178 = .ok (.iload 6, 2) := by decide +kernel
theorem dL_act_180 : decode cL_act 180 = .ok (.bipush 6, 2) := by decide +kernel
theorem dL_act_182 : decode cL_act 182 = .ok (.invokevirtual 10, 3) := by decide +kernel
theorem dL_act_185 : decode cL_act 185 = .ok (.ifCond .ne 7, 3) := by decide +kernel
theorem dL_act_188 : decode cL_act 188 = .ok (.iconst 1, 1) := by decide +kernel
theorem dL_act_189 : decode cL_act 189 = .ok (.goto 4, 3) := by decide +kernel
theorem dL_act_192 : decode cL_act 192 = .ok (.iconst 0, 1) := by decide +kernel
theorem dL_act_193 : decode cL_act 193 = .ok (.ireturn, 1) := by decide +kernel
theorem dL_act_194 : decode cL_act 194 = .ok (.aload_n 0, 1) := by decide +kernel
theorem dL_act_195 : decode cL_act 195 = .ok (.invokestatic 68, 3) := by decide +kernel
theorem dL_act_198 : decode cL_act 198 = .ok (.lstore 5, 2) := by decide +kernel
theorem dL_act_200 : decode cL_act 200 = .ok (.iconst 0, 1) := by decide +kernel
theorem dL_act_201 : decode cL_act 201 = .ok (.istore 7, 2) := by decide +kernel
theorem dL_act_203 : decode cL_act 203 = .ok (.iconst 0, 1) := by decide +kernel
theorem dL_act_204 : decode cL_act 204 = .ok (.istore 8, 2) := by decide +kernel
theorem dL_act_206 : decode cL_act 206 = .ok (.iload 8, 2) := by decide +kernel
theorem dL_act_208 : decode cL_act 208 = .ok (.bipush 16, 2) := by decide +kernel
theorem dL_act_210 : decode cL_act 210 = .ok (.if_icmp .ge 34, 3) := by decide +kernel
theorem dL_act_213 : decode cL_act 213 = .ok (.aload_n 0, 1) := by decide +kernel
theorem dL_act_214 : decode cL_act 214 = .ok (.iload_n 3, 1) := by decide +kernel
theorem dL_act_215 : decode cL_act 215 = .ok (.invokestatic 26, 3) := by decide +kernel
theorem dL_act_218 : decode cL_act 218 = .ok (.ifCond .eq 26, 3) := by decide +kernel
theorem dL_act_221 : decode cL_act 221 = .ok (.iload 7, 2) := by decide +kernel
theorem dL_act_223 : decode cL_act 223 = .ok (.aload_n 0, 1) := by decide +kernel
theorem dL_act_224 : decode cL_act 224 = .ok (.iload_n 3, 1) := by decide +kernel
theorem dL_act_225 : decode cL_act 225 = .ok (.bipush 6, 2) := by decide +kernel
theorem dL_act_227 : decode cL_act 227 = .ok (.invokevirtual 10, 3) := by decide +kernel
theorem dL_act_230 : decode cL_act 230 = .ok (.iload 8, 2) := by decide +kernel
theorem dL_act_232 : decode cL_act 232 = .ok (.ishr, 1) := by decide +kernel
theorem dL_act_233 : decode cL_act 233 = .ok (.iconst 1, 1) := by decide +kernel
theorem dL_act_234 : decode cL_act 234 = .ok (.iand, 1) := by decide +kernel
theorem dL_act_235 : decode cL_act 235 = .ok (.iadd, 1) := by decide +kernel
theorem dL_act_236 : decode cL_act 236 = .ok (.istore 7, 2) := by decide +kernel
theorem dL_act_238 : decode cL_act 238 = .ok (.iinc 8 1, 3) := by decide +kernel
theorem dL_act_241 : decode cL_act 241 = .ok (.goto (-35), 3) := by decide +kernel
theorem dL_act_244 : decode cL_act 244 = .ok (.aload_n 0, 1) := by decide +kernel
theorem dL_act_245 : decode cL_act 245 = .ok (.iload_n 3, 1) := by decide +kernel
theorem dL_act_246 : decode cL_act 246 = .ok (.invokestatic 26, 3) := by decide +kernel
theorem dL_act_249 : decode cL_act 249 = .ok (.ifCond .eq 56, 3) := by decide +kernel
theorem dL_act_252 : decode cL_act 252 = .ok (.aload_n 0, 1) := by decide +kernel
theorem dL_act_253 : decode cL_act 253 = .ok (.iload_n 3, 1) := by decide +kernel
theorem dL_act_254 : decode cL_act 254 = .ok (.invokevirtual 78, 3) := by decide +kernel
theorem dL_act_257 : decode cL_act 257 = .ok (.iload 7, 2) := by decide +kernel
theorem dL_act_259 : decode cL_act 259 = .ok (.if_icmp .ne 42, 3) := by decide +kernel
theorem dL_act_262 : decode cL_act 262 = .ok (.aload_n 0, 1) := by decide +kernel
theorem dL_act_263 : decode cL_act 263 = .ok (.iload_n 3, 1) := by decide +kernel
theorem dL_act_264 : decode cL_act 264 = .ok (.invokestatic 26, 3) := by decide +kernel
theorem dL_act_267 : decode cL_act 267 = .ok (.ifCond .ne 34, 3) := by decide +kernel
theorem dL_act_270 : decode cL_act 270 = .ok (.iload_n 2, 1) := by decide +kernel
theorem dL_act_271 : decode cL_act 271 = .ok (.iconst 4, 1) := by decide +kernel
theorem dL_act_272 : decode cL_act 272 = .ok (.ishr, 1) := by decide +kernel
theorem dL_act_273 : decode cL_act 273 = .ok (.iconst 3, 1) := by decide +kernel
theorem dL_act_274 : decode cL_act 274 = .ok (.invokestatic 72, 3) := by decide +kernel
theorem dL_act_277 : decode cL_act 277 = .ok (.ifCond .eq 20, 3) := by decide +kernel
theorem dL_act_280 : decode cL_act 280 = .ok (.aload_n 0, 1) := by decide +kernel
theorem dL_act_281 : decode cL_act 281 = .ok (.invokevirtual 55, 3) := by decide +kernel
theorem dL_act_284 : decode cL_act 284 = .ok (.ifCond .lt 17, 3) := by decide +kernel
theorem dL_act_287 : decode cL_act 287 = .ok (.aload_n 0, 1) := by decide +kernel
theorem dL_act_288 : decode cL_act 288 = .ok (.invokestatic 68, 3) := by decide +kernel
theorem dL_act_291 : decode cL_act 291 = .ok (.lload 5, 2) := by decide +kernel
theorem dL_act_293 : decode cL_act 293 = .ok (.lcmp, 1) := by decide +kernel
theorem dL_act_294 : decode cL_act 294 = .ok (.ifCond .ne 7, 3) := by decide +kernel
theorem dL_act_297 : decode cL_act 297 = .ok (.iconst 1, 1) := by decide +kernel
theorem dL_act_298 : decode cL_act 298 = .ok (.goto 31, 3) := by decide +kernel
theorem dL_act_301 : decode cL_act 301 = .ok (.iconst 0, 1) := by decide +kernel
theorem dL_act_302 : decode cL_act 302 = .ok (.goto 27, 3) := by decide +kernel
theorem dL_act_305 : decode cL_act 305 = .ok (.aload_n 0, 1) := by decide +kernel
theorem dL_act_306 : decode cL_act 306 = .ok (.iload_n 3, 1) := by decide +kernel
theorem dL_act_307 : decode cL_act 307 = .ok (.invokevirtual 78, 3) := by decide +kernel
theorem dL_act_310 : decode cL_act 310 = .ok (.iconst (-1), 1) := by decide +kernel
theorem dL_act_311 : decode cL_act 311 = .ok (.if_icmp .ne 17, 3) := by decide +kernel
theorem dL_act_314 : decode cL_act 314 = .ok (.aload_n 0, 1) := by decide +kernel
theorem dL_act_315 : decode cL_act 315 = .ok (.invokestatic 68, 3) := by decide +kernel
theorem dL_act_318 : decode cL_act 318 = .ok (.lload 5, 2) := by decide +kernel
theorem dL_act_320 : decode cL_act 320 = .ok (.lcmp, 1) := by decide +kernel
theorem dL_act_321 : decode cL_act 321 = .ok (.ifCond .ne 7, 3) := by decide +kernel
theorem dL_act_324 : decode cL_act 324 = .ok (.iconst 1, 1) := by decide +kernel
theorem dL_act_325 : decode cL_act 325 = .ok (.goto 4, 3) := by decide +kernel
theorem dL_act_328 : decode cL_act 328 = .ok (.iconst 0, 1) := by decide +kernel
theorem dL_act_329 : decode cL_act 329 = .ok (.ireturn, 1) := by decide +kernel
theorem dL_act_330 : decode cL_act 330 = .ok (.iload_n 2, 1) := by decide +kernel
theorem dL_act_331 : decode cL_act 331 = .ok (.iconst 4, 1) := by decide +kernel
theorem dL_act_332 : decode cL_act 332 = .ok (.ishr, 1) := by decide +kernel
theorem dL_act_333 : decode cL_act 333 = .ok (.iconst 3, 1) := by decide +kernel
theorem dL_act_334 : decode cL_act 334 = .ok (.invokestatic 72, 3) := by decide +kernel
theorem dL_act_337 : decode cL_act 337 = .ok (.ifCond .le 7, 3) := by decide +kernel
theorem dL_act_340 : decode cL_act 340 = .ok (.iconst 1, 1) := by decide +kernel
theorem dL_act_341 : decode cL_act 341 = .ok (.goto 4, 3) := by decide +kernel
theorem dL_act_344 : decode cL_act 344 = .ok (.iconst 0, 1) := by decide +kernel
theorem dL_act_345 : decode cL_act 345 = .ok (.istore 5, 2) := by decide +kernel
theorem dL_act_347 : decode cL_act 347 = .ok (.aload_n 0, 1) := by decide +kernel
theorem dL_act_348 : decode cL_act 348 = .ok (.iload_n 3, 1) := by decide +kernel
theorem dL_act_349 : decode cL_act 349 = .ok (.iload 5, 2) := by decide +kernel
theorem dL_act_351 : decode cL_act 351 = .ok (.invokevirtual 81, 3) := by decide +kernel
theorem dL_act_354 : decode cL_act 354 = .ok (.istore 6, 2) := by decide +kernel
theorem dL_act_356 : decode cL_act 356 = .ok (.aload_n 0, 1) := by decide +kernel
theorem dL_act_357 : decode cL_act 357 = .ok (.iload_n 3, 1) := by decide +kernel
theorem dL_act_358 : decode cL_act 358 = .ok (.invokestatic 26, 3) := by decide +kernel
theorem dL_act_361 : decode cL_act 361 = .ok (.ifCond .ne 17, 3) := by decide +kernel
theorem dL_act_364 : decode cL_act 364 = .ok (.iload 6, 2) := by decide +kernel
theorem dL_act_366 : decode cL_act 366 = .ok (.iconst (-1), 1) := by decide +kernel
theorem dL_act_367 : decode cL_act 367 = .ok (.if_icmp .ne 7, 3) := by decide +kernel
theorem dL_act_370 : decode cL_act 370 = .ok (.iconst 1, 1) := by decide +kernel
theorem dL_act_371 : decode cL_act 371 = .ok (.goto 39, 3) := by decide +kernel
theorem dL_act_374 : decode cL_act 374 = .ok (.iconst 0, 1) := by decide +kernel
theorem dL_act_375 : decode cL_act 375 = .ok (.goto 35, 3) := by decide +kernel
theorem dL_act_378 : decode cL_act 378 = .ok (.iload 6, 2) := by decide +kernel
theorem dL_act_380 : decode cL_act 380 = .ok (.bipush (-5), 2) := by decide +kernel
theorem dL_act_382 : decode cL_act 382 = .ok (.if_icmp .eq 13, 3) := by decide +kernel
theorem dL_act_385 : decode cL_act 385 = .ok (.iload 6, 2) := by decide +kernel
theorem dL_act_387 : decode cL_act 387 = .ok (.aload_n 0, 1) := by decide +kernel
theorem dL_act_388 : decode cL_act 388 = .ok (.iconst 2, 1) := by decide +kernel
theorem dL_act_389 : decode cL_act 389 = .ok (.invokevirtual 22, 3) := by decide +kernel
theorem dL_act_392 : decode cL_act 392 = .ok (.if_icmp .ne 17, 3) := by decide +kernel
theorem dL_act_395 : decode cL_act 395 = .ok (.aload_n 0, 1) := by decide +kernel
theorem dL_act_396 : decode cL_act 396 = .ok (.iload_n 3, 1) := by decide +kernel
theorem dL_act_397 : decode cL_act 397 = .ok (.invokestatic 16, 3) := by decide +kernel
theorem dL_act_400 : decode cL_act 400 = .ok (.iload 5, 2) := by decide +kernel
theorem dL_act_402 : decode cL_act 402 = .ok (.if_icmp .ne 7, 3) := by decide +kernel
theorem dL_act_405 : decode cL_act 405 = .ok (.iconst 1, 1) := by decide +kernel
theorem dL_act_406 : decode cL_act 406 = .ok (.goto 4, 3) := by decide +kernel
theorem dL_act_409 : decode cL_act 409 = .ok (.iconst 0, 1) := by decide +kernel
theorem dL_act_410 : decode cL_act 410 = .ok (.ireturn, 1) := by decide +kernel
theorem dL_act_411 : decode cL_act 411 = .ok (.aload_n 0, 1) := by decide +kernel
theorem dL_act_412 : decode cL_act 412 = .ok (.iload_n 3, 1) := by decide +kernel
theorem dL_act_413 : decode cL_act 413 = .ok (.iload 4, 2) := by decide +kernel
theorem dL_act_415 : decode cL_act 415 = .ok (.invokestatic 85, 3) := by decide +kernel
theorem dL_act_418 : decode cL_act 418 = .ok (.ifCond .eq 35, 3) := by decide +kernel
theorem dL_act_421 : decode cL_act 421 = .ok (.aload_n 0, 1) := by decide +kernel
theorem dL_act_422 : decode cL_act 422 = .ok (.iload_n 3, 1) := by decide +kernel
theorem dL_act_423 : decode cL_act 423 = .ok (.iload 4, 2) := by decide +kernel
theorem dL_act_425 : decode cL_act 425 = .ok (.iload_n 2, 1) := by decide +kernel
theorem dL_act_426 : decode cL_act 426 = .ok (.bipush 6, 2) := by decide +kernel
theorem dL_act_428 : decode cL_act 428 = .ok (.ishr, 1) := by decide +kernel
theorem dL_act_429 : decode cL_act 429 = .ok (.iconst 4, 1) := by decide +kernel
theorem dL_act_430 : decode cL_act 430 = .ok (.invokestatic 72, 3) := by decide +kernel
theorem dL_act_433 : decode cL_act 433 = .ok (.ifCond .le 7, 3) := by decide +kernel
theorem dL_act_436 : decode cL_act 436 = .ok (.iconst 1, 1) := by decide +kernel
theorem dL_act_437 : decode cL_act 437 = .ok (.goto 4, 3) := by decide +kernel
theorem dL_act_440 : decode cL_act 440 = .ok (.iconst 0, 1) := by decide +kernel
theorem dL_act_441 : decode cL_act 441 = .ok (.invokevirtual 61, 3) := by decide +kernel
theorem dL_act_444 : decode cL_act 444 = .ok (.bipush (-5), 2) := by decide +kernel
theorem dL_act_446 : decode cL_act 446 = .ok (.if_icmp .lt 7, 3) := by decide +kernel
theorem dL_act_449 : decode cL_act 449 = .ok (.iconst 1, 1) := by decide +kernel
theorem dL_act_450 : decode cL_act 450 = .ok (.goto 4, 3) := by decide +kernel
theorem dL_act_453 : decode cL_act 453 = .ok (.iconst 0, 1) := by decide +kernel
theorem dL_act_454 : decode cL_act 454 = .ok (.ireturn, 1) := by decide +kernel
theorem dL_act_455 : decode cL_act 455 = .ok (.aload_n 0, 1) := by decide +kernel
theorem dL_act_456 : decode cL_act 456 = .ok (.iload_n 3, 1) := by decide +kernel
theorem dL_act_457 : decode cL_act 457 = .ok (.iload 4, 2) := by decide +kernel
theorem dL_act_459 : decode cL_act 459 = .ok (.iconst 1, 1) := by decide +kernel
theorem dL_act_460 : decode cL_act 460 = .ok (.invokevirtual 61, 3) := by decide +kernel
theorem dL_act_463 : decode cL_act 463 = .ok (.bipush (-5), 2) := by decide +kernel
theorem dL_act_465 : decode cL_act 465 = .ok (.if_icmp .lt 7, 3) := by decide +kernel
theorem dL_act_468 : decode cL_act 468 = .ok (.iconst 1, 1) := by decide +kernel
theorem dL_act_469 : decode cL_act 469 = .ok (.goto 4, 3) := by decide +kernel
theorem dL_act_472 : decode cL_act 472 = .ok (.iconst 0, 1) := by decide +kernel
theorem dL_act_473 : decode cL_act 473 = .ok (.ireturn, 1) := by decide +kernel
theorem dL_act_474 : decode cL_act 474 = .ok (.aload_n 0, 1) := by decide +kernel
theorem dL_act_475 : decode cL_act 475 = .ok (.iload_n 3, 1) := by decide +kernel
theorem dL_act_476 : decode cL_act 476 = .ok (.iconst 0, 1) := by decide +kernel
theorem dL_act_477 : decode cL_act 477 = .ok (.invokevirtual 10, 3) := by decide +kernel
theorem dL_act_480 : decode cL_act 480 = .ok (.istore 5, 2) := by decide +kernel
theorem dL_act_482 : decode cL_act 482 = .ok (.aload_n 0, 1) := by decide +kernel
theorem dL_act_483 : decode cL_act 483 = .ok (.iload_n 3, 1) := by decide +kernel
theorem dL_act_484 : decode cL_act 484 = .ok (.iload_n 2, 1) := by decide +kernel
theorem dL_act_485 : decode cL_act 485 = .ok (.iconst 4, 1) := by decide +kernel
theorem dL_act_486 : decode cL_act 486 = .ok (.ishr, 1) := by decide +kernel
theorem dL_act_487 : decode cL_act 487 = .ok (.aload_n 0, 1) := by decide +kernel
theorem dL_act_488 : decode cL_act 488 = .ok (.bipush 9, 2) := by decide +kernel
theorem dL_act_490 : decode cL_act 490 = .ok (.invokevirtual 22, 3) := by decide +kernel
theorem dL_act_493 : decode cL_act 493 = .ok (.invokestatic 72, 3) := by decide +kernel
theorem dL_act_496 : decode cL_act 496 = .ok (.bipush 100, 2) := by decide +kernel
theorem dL_act_498 : decode cL_act 498 = .ok (.invokevirtual 89, 3) := by decide +kernel
theorem dL_act_501 : decode cL_act 501 = .ok (.istore 6, 2) := by decide +kernel
theorem dL_act_503 : decode cL_act 503 = .ok (.iload 6, 2) := by decide +kernel
theorem dL_act_505 : decode cL_act 505 = .ok (.iload 5, 2) := by decide +kernel
theorem dL_act_507 : decode cL_act 507 = .ok (.if_icmp .ne 47, 3) := by decide +kernel
theorem dL_act_510 : decode cL_act 510 = .ok (.iload 5, 2) := by decide +kernel
theorem dL_act_512 : decode cL_act 512 = .ok (.ifCond .lt 38, 3) := by decide +kernel
theorem dL_act_515 : decode cL_act 515 = .ok (.aload_n 0, 1) := by decide +kernel
theorem dL_act_516 : decode cL_act 516 = .ok (.iload_n 3, 1) := by decide +kernel
theorem dL_act_517 : decode cL_act 517 = .ok (.iconst 0, 1) := by decide +kernel
theorem dL_act_518 : decode cL_act 518 = .ok (.invokevirtual 10, 3) := by decide +kernel
theorem dL_act_521 : decode cL_act 521 = .ok (.bipush 100, 2) := by decide +kernel
theorem dL_act_523 : decode cL_act 523 = .ok (.iload_n 2, 1) := by decide +kernel
theorem dL_act_524 : decode cL_act 524 = .ok (.iconst 4, 1) := by decide +kernel
theorem dL_act_525 : decode cL_act 525 = .ok (.ishr, 1) := by decide +kernel
theorem dL_act_526 : decode cL_act 526 = .ok (.aload_n 0, 1) := by decide +kernel
theorem dL_act_527 : decode cL_act 527 = .ok (.bipush 9, 2) := by decide +kernel
theorem dL_act_529 : decode cL_act 529 = .ok (.invokevirtual 22, 3) := by decide +kernel
theorem dL_act_532 : decode cL_act 532 = .ok (.invokestatic 72, 3) := by decide +kernel
theorem dL_act_535 : decode cL_act 535 = .ok (.imul, 1) := by decide +kernel
theorem dL_act_536 : decode cL_act 536 = .ok (.if_icmp .ne 18, 3) := by decide +kernel
theorem dL_act_539 : decode cL_act 539 = .ok (.aload_n 0, 1) := by decide +kernel
theorem dL_act_540 : decode cL_act 540 = .ok (.iload_n 3, 1) := by decide +kernel
theorem dL_act_541 : decode cL_act 541 = .ok (.iconst 1, 1) := by decide +kernel
theorem dL_act_542 : decode cL_act 542 = .ok (.invokevirtual 10, 3) := by decide +kernel
theorem dL_act_545 : decode cL_act 545 = .ok (.bipush 100, 2) := by decide +kernel
theorem dL_act_547 : decode cL_act 547 = .ok (.if_icmp .ne 7, 3) := by decide +kernel
theorem dL_act_550 : decode cL_act 550 = .ok (.iconst 1, 1) := by decide +kernel
theorem dL_act_551 : decode cL_act 551 = .ok (.goto 4, 3) := by decide +kernel
theorem dL_act_554 : decode cL_act 554 = .ok (.iconst 0, 1) := by decide +kernel
theorem dL_act_555 : decode cL_act 555 = .ok (.ireturn, 1) := by decide +kernel
theorem dL_act_556 : decode cL_act 556 = .ok (.iload_n 2, 1) := by decide +kernel
theorem dL_act_557 : decode cL_act 557 = .ok (.iconst 3, 1) := by decide +kernel
theorem dL_act_558 : decode cL_act 558 = .ok (.invokestatic 72, 3) := by decide +kernel
theorem dL_act_561 : decode cL_act 561 = .ok (.istore 5, 2) := by decide +kernel
theorem dL_act_563 : decode cL_act 563 = .ok (.iload 5, 2) := by decide +kernel
theorem dL_act_565 : decode cL_act 565 = .ok (.ifCond .ne 17, 3) := by decide +kernel
theorem dL_act_568 : decode cL_act 568 = .ok (.bipush 10, 2) := by decide +kernel
theorem dL_act_570 : decode cL_act 570 = .ok (.iload_n 2, 1) := by decide +kernel
theorem dL_act_571 : decode cL_act 571 = .ok (.iconst 2, 1) := by decide +kernel
theorem dL_act_572 : decode cL_act 572 = .ok (.ishr, 1) := by decide +kernel
theorem dL_act_573 : decode cL_act 573 = .ok (.bipush 60, 2) := by decide +kernel
theorem dL_act_575 : decode cL_act 575 = .ok (.invokestatic 72, 3) := by decide +kernel
theorem dL_act_578 : decode cL_act 578 = .ok (.iadd, 1) := by decide +kernel
theorem dL_act_579 : decode cL_act 579 = .ok (.goto 28, 3) := by decide +kernel
theorem dL_act_582 : decode cL_act 582 = .ok (.iload 5, 2) := by decide +kernel
theorem dL_act_584 : decode cL_act 584 = .ok (.iconst 1, 1) := by decide +kernel
theorem dL_act_585 : decode cL_act 585 = .ok (.if_icmp .ne 14, 3) := by decide +kernel
theorem dL_act_588 : decode cL_act 588 = .ok (.iload_n 2, 1) := by decide +kernel
theorem dL_act_589 : decode cL_act 589 = .ok (.iconst 2, 1) := by decide +kernel
theorem dL_act_590 : decode cL_act 590 = .ok (.ishr, 1) := by decide +kernel
theorem dL_act_591 : decode cL_act 591 = .ok (.bipush 101, 2) := by decide +kernel
theorem dL_act_593 : decode cL_act 593 = .ok (.invokestatic 72, 3) := by decide +kernel
theorem dL_act_596 : decode cL_act 596 = .ok (.goto 11, 3) := by decide +kernel
theorem dL_act_599 : decode cL_act 599 = .ok (.iload_n 2, 1) := by decide +kernel
theorem dL_act_600 : decode cL_act 600 = .ok (.iconst 2, 1) := by decide +kernel
theorem dL_act_601 : decode cL_act 601 = .ok (.ishr, 1) := by decide +kernel
theorem dL_act_602 : decode cL_act 602 = .ok (.bipush 6, 2) := by decide +kernel
theorem dL_act_604 : decode cL_act 604 = .ok (.invokestatic 72, 3) := by decide +kernel
theorem dL_act_607 : decode cL_act 607 = .ok (.istore 6, 2) := by decide +kernel
theorem dL_act_609 : decode cL_act 609 = .ok (.aload_n 0, 1) := by decide +kernel
theorem dL_act_610 : decode cL_act 610 = .ok (.bipush 9, 2) := by decide +kernel
theorem dL_act_612 : decode cL_act 612 = .ok (.iload 5, 2) := by decide +kernel
theorem dL_act_614 : decode cL_act 614 = .ok (.iadd, 1) := by decide +kernel
theorem dL_act_615 : decode cL_act 615 = .ok (.invokevirtual 22, 3) := by decide +kernel
theorem dL_act_618 : decode cL_act 618 = .ok (.istore 7, 2) := by decide +kernel
theorem dL_act_620 : decode cL_act 620 = .ok (.aload_n 0, 1) := by decide +kernel
theorem dL_act_621 : decode cL_act 621 = .ok (.iload 5, 2) := by decide +kernel
theorem dL_act_623 : decode cL_act 623 = .ok (.iload 6, 2) := by decide +kernel
theorem dL_act_625 : decode cL_act 625 = .ok (.invokevirtual 93, 3) := by decide +kernel
theorem dL_act_628 : decode cL_act 628 = .ok (.iload 7, 2) := by decide +kernel
theorem dL_act_630 : decode cL_act 630 = .ok (.iload 6, 2) := by decide +kernel
theorem dL_act_632 : decode cL_act 632 = .ok (.if_icmp .ne 8, 3) := by decide +kernel
theorem dL_act_635 : decode cL_act 635 = .ok (.bipush (-5), 2) := by decide +kernel
theorem dL_act_637 : decode cL_act 637 = .ok (.goto 5, 3) := by decide +kernel
theorem dL_act_640 : decode cL_act 640 = .ok (.iload 7, 2) := by decide +kernel
theorem dL_act_642 : decode cL_act 642 = .ok (.if_icmp .ne 21, 3) := by decide +kernel
theorem dL_act_645 : decode cL_act 645 = .ok (.aload_n 0, 1) := by decide +kernel
theorem dL_act_646 : decode cL_act 646 = .ok (.bipush 9, 2) := by decide +kernel
theorem dL_act_648 : decode cL_act 648 = .ok (.iload 5, 2) := by decide +kernel
theorem dL_act_650 : decode cL_act 650 = .ok (.iadd, 1) := by decide +kernel
theorem dL_act_651 : decode cL_act 651 = .ok (.invokevirtual 22, 3) := by decide +kernel
theorem dL_act_654 : decode cL_act 654 = .ok (.iload 6, 2) := by decide +kernel
theorem dL_act_656 : decode cL_act 656 = .ok (.if_icmp .ne 7, 3) := by decide +kernel
theorem dL_act_659 : decode cL_act 659 = .ok (.iconst 1, 1) := by decide +kernel
theorem dL_act_660 : decode cL_act 660 = .ok (.goto 4, 3) := by decide +kernel
theorem dL_act_663 : decode cL_act 663 = .ok (.iconst 0, 1) := by decide +kernel
theorem dL_act_664 : decode cL_act 664 = .ok (.ireturn, 1) := by decide +kernel
theorem dL_act_665 : decode cL_act 665 = .ok (.aload_n 0, 1) := by decide +kernel
theorem dL_act_666 : decode cL_act 666 = .ok (.iconst 1, 1) := by decide +kernel
theorem dL_act_667 : decode cL_act 667 = .ok (.iload_n 2, 1) := by decide +kernel
theorem dL_act_668 : decode cL_act 668 = .ok (.bipush 60, 2) := by decide +kernel
theorem dL_act_670 : decode cL_act 670 = .ok (.invokestatic 72, 3) := by decide +kernel
theorem dL_act_673 : decode cL_act 673 = .ok (.iadd, 1) := by decide +kernel
theorem dL_act_674 : decode cL_act 674 = .ok (.iconst 1, 1) := by decide +kernel
theorem dL_act_675 : decode cL_act 675 = .ok (.iload_n 2, 1) := by decide +kernel
theorem dL_act_676 : decode cL_act 676 = .ok (.bipush 7, 2) := by decide +kernel
theorem dL_act_678 : decode cL_act 678 = .ok (.ishr, 1) := by decide +kernel
theorem dL_act_679 : decode cL_act 679 = .ok (.bipush 60, 2) := by decide +kernel
theorem dL_act_681 : decode cL_act 681 = .ok (.invokestatic 72, 3) := by decide +kernel
theorem dL_act_684 : decode cL_act 684 = .ok (.iadd, 1) := by decide +kernel
theorem dL_act_685 : decode cL_act 685 = .ok (.invokestatic 96, 3) := by decide +kernel
theorem dL_act_688 : decode cL_act 688 = .ok (.ireturn, 1) := by decide +kernel
theorem dL_act_689 : decode cL_act 689 = .ok (.aload_n 0, 1) := by decide +kernel
theorem dL_act_690 : decode cL_act 690 = .ok (.invokestatic 99, 3) := by decide +kernel
theorem dL_act_693 : decode cL_act 693 = .ok (.ifCond .eq 14, 3) := by decide +kernel
theorem dL_act_696 : decode cL_act 696 = .ok (.aload_n 0, 1) := by decide +kernel
theorem dL_act_697 : decode cL_act 697 = .ok (.invokestatic 103, 3) := by decide +kernel
theorem dL_act_700 : decode cL_act 700 = .ok (.ifCond .eq 7, 3) := by decide +kernel
theorem dL_act_703 : decode cL_act 703 = .ok (.iconst 1, 1) := by decide +kernel
theorem dL_act_704 : decode cL_act 704 = .ok (.goto 4, 3) := by decide +kernel
theorem dL_act_707 : decode cL_act 707 = .ok (.iconst 0, 1) := by decide +kernel
theorem dL_act_708 : decode cL_act 708 = .ok (.ireturn, 1) := by decide +kernel
theorem dL_act_709 : decode cL_act 709 = .ok (.iload_n 2, 1) := by decide +kernel
theorem dL_act_710 : decode cL_act 710 = .ok (.iconst 4, 1) := by decide +kernel
theorem dL_act_711 : decode cL_act 711 = .ok (.invokestatic 72, 3) := by decide +kernel
theorem dL_act_714 : decode cL_act 714 = .ok (.ifCond .gt 10, 3) := by decide +kernel
theorem dL_act_717 : decode cL_act 717 = .ok (.aload_n 0, 1) := by decide +kernel
theorem dL_act_718 : decode cL_act 718 = .ok (.invokestatic 106, 3) := by decide +kernel
theorem dL_act_721 : decode cL_act 721 = .ok (.ifCond .eq 7, 3) := by decide +kernel
theorem dL_act_724 : decode cL_act 724 = .ok (.iconst 1, 1) := by decide +kernel
theorem dL_act_725 : decode cL_act 725 = .ok (.goto 4, 3) := by decide +kernel
theorem dL_act_728 : decode cL_act 728 = .ok (.iconst 0, 1) := by decide +kernel
theorem dL_act_729 : decode cL_act 729 = .ok (.ireturn, 1) := by decide +kernel
theorem dL_act_730 : decode cL_act 730 = .ok (.aload_n 0, 1) := by decide +kernel
theorem dL_act_731 : decode cL_act 731 = .ok (.iload_n 2, 1) := by decide +kernel
theorem dL_act_732 : decode cL_act 732 = .ok (.invokestatic 109, 3) := by decide +kernel
theorem dL_act_735 : decode cL_act 735 = .ok (.ireturn, 1) := by decide +kernel
theorem dL_law_0 : decode cL_law 0 = .ok (.new 11, 3) := by decide +kernel
theorem dL_law_3 : decode cL_law 3 = .ok (.dup, 1) := by decide +kernel
theorem dL_law_4 : decode cL_law 4 = .ok (.invokespecial 112, 3) := by decide +kernel
theorem dL_law_7 : decode cL_law 7 = .ok (.astore_n 1, 1) := by decide +kernel
theorem dL_law_8 : decode cL_law 8 = .ok (.aload_n 1, 1) := by decide +kernel
theorem dL_law_9 : decode cL_law 9 = .ok (.invokestatic 113, 3) := by decide +kernel
theorem dL_law_12 : decode cL_law 12 = .ok (.ifCond .eq 22, 3) := by decide +kernel
theorem dL_law_15 : decode cL_law 15 = .ok (.aload_n 1, 1) := by decide +kernel
theorem dL_law_16 : decode cL_law 16 = .ok (.invokevirtual 116, 3) := by decide +kernel
theorem dL_law_19 : decode cL_law 19 = .ok (.bipush (-5), 2) := by decide +kernel
theorem dL_law_21 : decode cL_law 21 = .ok (.if_icmp .ne 13, 3) := by decide +kernel
theorem dL_law_24 : decode cL_law 24 = .ok (.aload_n 1, 1) := by decide +kernel
theorem dL_law_25 : decode cL_law 25 = .ok (.iconst 0, 1) := by decide +kernel
theorem dL_law_26 : decode cL_law 26 = .ok (.invokevirtual 65, 3) := by decide +kernel
theorem dL_law_29 : decode cL_law 29 = .ok (.bipush (-5), 2) := by decide +kernel
theorem dL_law_31 : decode cL_law 31 = .ok (.if_icmp .eq 5, 3) := by decide +kernel
theorem dL_law_34 : decode cL_law 34 = .ok (.iconst 0, 1) := by decide +kernel
theorem dL_law_35 : decode cL_law 35 = .ok (.ireturn, 1) := by decide +kernel
theorem dL_law_36 : decode cL_law 36 = .ok (.iconst 0, 1) := by decide +kernel
theorem dL_law_37 : decode cL_law 37 = .ok (.istore_n 2, 1) := by decide +kernel
theorem dL_law_38 : decode cL_law 38 = .ok (.iload_n 2, 1) := by decide +kernel
theorem dL_law_39 : decode cL_law 39 = .ok (.bipush 30, 2) := by decide +kernel
theorem dL_law_41 : decode cL_law 41 = .ok (.if_icmp .ge 50, 3) := by decide +kernel
theorem dL_law_44 : decode cL_law 44 = .ok (.aload_n 1, 1) := by decide +kernel
theorem dL_law_45 : decode cL_law 45 = .ok (.iload_n 2, 1) := by decide +kernel
theorem dL_law_46 : decode cL_law 46 = .ok (.iconst 4, 1) := by decide +kernel
theorem dL_law_47 : decode cL_law 47 = .ok (.if_icmp .ge 7, 3) := by decide +kernel
theorem dL_law_50 : decode cL_law 50 = .ok (.iconst 0, 1) := by decide +kernel
theorem dL_law_51 : decode cL_law 51 = .ok (.goto 10, 3) := by decide +kernel
theorem dL_law_54 : decode cL_law 54 = .ok (.aload_n 0, 1) := by decide +kernel
theorem dL_law_55 : decode cL_law 55 = .ok (.iconst 2, 1) := by decide +kernel
theorem dL_law_56 : decode cL_law 56 = .ok (.iload_n 2, 1) := by decide +kernel
theorem dL_law_57 : decode cL_law 57 = .ok (.imul, 1) := by decide +kernel
theorem dL_law_58 : decode cL_law 58 = .ok (.invokestatic 119, 3) := by decide +kernel
theorem dL_law_61 : decode cL_law 61 = .ok (.aload_n 0, 1) := by decide +kernel
theorem dL_law_62 : decode cL_law 62 = .ok (.iconst 2, 1) := by decide +kernel
theorem dL_law_63 : decode cL_law 63 = .ok (.iload_n 2, 1) := by decide +kernel
theorem dL_law_64 : decode cL_law 64 = .ok (.imul, 1) := by decide +kernel
theorem dL_law_65 : decode cL_law 65 = .ok (.iconst 1, 1) := by decide +kernel
theorem dL_law_66 : decode cL_law 66 = .ok (.iadd, 1) := by decide +kernel
theorem dL_law_67 : decode cL_law 67 = .ok (.invokestatic 119, 3) := by decide +kernel
theorem dL_law_70 : decode cL_law 70 = .ok (.invokestatic 123, 3) := by decide +kernel
theorem dL_law_73 : decode cL_law 73 = .ok (.ifCond .eq 10, 3) := by decide +kernel
theorem dL_law_76 : decode cL_law 76 = .ok (.aload_n 1, 1) := by decide +kernel
theorem dL_law_77 : decode cL_law 77 = .ok (.invokestatic 113, 3) := by decide +kernel
theorem dL_law_80 : decode cL_law 80 = .ok (.ifCond .ne 5, 3) := by decide +kernel
theorem dL_law_83 : decode cL_law 83 = .ok (.iconst 0, 1) := by decide +kernel
theorem dL_law_84 : decode cL_law 84 = .ok (.ireturn, 1) := by decide +kernel
theorem dL_law_85 : decode cL_law 85 = .ok (.iinc 2 1, 3) := by decide +kernel
theorem dL_law_88 : decode cL_law 88 = .ok (.goto (-50), 3) := by decide +kernel
theorem dL_law_91 : decode cL_law 91 = .ok (.aload_n 1, 1) := by decide +kernel
theorem dL_law_92 : decode cL_law 92 = .ok (.invokestatic 103, 3) := by decide +kernel
theorem dL_law_95 : decode cL_law 95 = .ok (.ifCond .eq 14, 3) := by decide +kernel
theorem dL_law_98 : decode cL_law 98 = .ok (.aload_n 1, 1) := by decide +kernel
theorem dL_law_99 : decode cL_law 99 = .ok (.invokestatic 99, 3) := by decide +kernel
theorem dL_law_102 : decode cL_law 102 = .ok (.ifCond .eq 7, 3) := by decide +kernel
theorem dL_law_105 : decode cL_law 105 = .ok (.iconst 1, 1) := by decide +kernel
theorem dL_law_106 : decode cL_law 106 = .ok (.goto 4, 3) := by decide +kernel
theorem dL_law_109 : decode cL_law 109 = .ok (.iconst 0, 1) := by decide +kernel
theorem dL_law_110 : decode cL_law 110 = .ok (.ireturn, 1) := by decide +kernel
end
section
-- the tables' words that can be handed on, and those that cannot (they go beside)
def gtbl : List Cond := lw_tbl.filter goodWord
theorem gw {w : Cond} (i : Nat) (h : tables_1[i]? = some w) (hg : goodWord w = true) : w ∈ gtbl := List.mem_filter.mpr ⟨List.mem_append_right _ (List.mem_of_getElem? h), hg⟩
theorem gwp {w : Cond} (i : Nat) (h : (k2_sels lw_privs)[i]? = some w) (hg : goodWord w = true) : w ∈ gtbl := List.mem_filter.mpr ⟨List.mem_append_left _ (List.mem_of_getElem? h), hg⟩
theorem gd_all : GoodIn gtbl gtbl := fun w h => ⟨h, good_of_word (List.mem_filter.mp h).2⟩
theorem gd_c {w : Cond} (h : w ∈ gtbl) : GoodIn gtbl (w :: gtbl) := fun x hx => by
  rcases List.mem_cons.mp hx with rfl | hx
  · exact gd_all _ h
  · exact gd_all _ hx
def gN (U : State) : Prop :=
  va_Nw (.methodLinkNest "BlinkMesh" 9 yX1_init "BlinkMesh") U ∧ va_Nw (.fieldLinkNest "BlinkMesh$Mesh" 33 "BlinkMesh" "FIRST_SETTING" "[I" "BlinkMesh") U ∧ va_Nw (.castable "[I" "java/lang/Cloneable") U ∧ va_Nw (.methodLinkNest "BlinkMesh$History" 17 yX1_init "BlinkMesh") U ∧ va_Nw (.methodLinkNest "BlinkMesh" 35 yX2_init "BlinkMesh") U ∧ va_Nw (.methodLinkNest "BlinkMesh$Mesh" 72 yX3_holds "BlinkMesh") U
theorem gN.warm {s U : State} (hW : s.WarmedH U.vm) (h : gN s) : gN U :=
  ⟨va_Nw.warmM hW h.1, va_Nw.warmF hW h.2.1, va_Nw.warmC hW h.2.2.1, va_Nw.warmM hW h.2.2.2.1, va_Nw.warmM hW h.2.2.2.2.1, va_Nw.warmM hW h.2.2.2.2.2⟩
theorem gN.same {s U : State} (e : s.vm = U.vm) (h : gN s) : gN U :=
  ⟨va_Nw.same rfl e h.1, va_Nw.same rfl e h.2.1, va_Nw.same rfl e h.2.2.1, va_Nw.same rfl e h.2.2.2.1, va_Nw.same rfl e h.2.2.2.2.1, va_Nw.same rfl e h.2.2.2.2.2⟩
-- the world: 71 cells with fixed numbers; meshes at 9j (j = 0..6) with their eight arrays behind them; 63 History, 64 its states, 65 MeshText, 66..69 its arrays, 70 BlinkMesh
abbrev gT : Type := ClassId × ClassId × ClassId
abbrev gG : Type := Nat → Nat → Int32
def gu (G : gG) (k i : Nat) (x : Int32) : gG := fun a b => if a = k then (if b = i then x else G a b) else G a b
theorem gu_ne {G : gG} {k i a : Nat} {x : Int32} (h : a ≠ k) : gu G k i x a = G a := by
  funext b; simp [gu, h]
theorem gu_eq {G : gG} {k i : Nat} {x : Int32} : gu G k i x k = upd (G k) i x := by
  funext b; simp [gu, upd]
def ce (t : gT) (ad : Nat → Nat) (k : Nat) (g : Nat → Int32) : va_E :=
  if k < 63 then
    (if k % 9 = 0 then .inr (1, [.ref (ad (k + 1)), .ref (ad (k + 2)), .ref (ad (k + 3)), .ref (ad (k + 4)), .ref (ad (k + 5)), .ref (ad (k + 6)), .ref (ad (k + 7)), .ref (ad (k + 8)), .int (g 8), .int (g 9), .int (g 10), .int (g 11), .int (g 12), .int (g 13), .int (g 14)])
     else if k % 9 = 8 then .inl (t.1, 3, .inl g) else .inl (t.1, 16, .inl g))
  else match k with
    | 63 => .inr (0, [.ref (ad 64), .int (g 1)])
    | 64 => .inl (t.2.2, 4, .inr (.inr (.inr (.inr (fun i => some (ad (g i).toNatClampNeg))))))
    | 65 => .inr (2, [.ref (ad 66), .int (g 1), .int (g 2), .ref (ad 67), .ref (ad 68), .int (g 5), .ref (ad 69)])
    | 66 => .inl (t.2.1, 60, .inl g)
    | 67 => .inl (t.1, 16, .inl g)
    | 68 => .inl (t.1, 16, .inl g)
    | 69 => .inl (t.1, 16, .inl g)
    | 70 => .inr (3, [.ref (ad 0), .ref (ad 9), .ref (ad 18), .int (g 3), .ref (ad 63), .ref (ad 65)])
    | _ => .inl (t.1, 16, .inl g)
def isM (k : Nat) : Prop := k < 63 ∧ k % 9 = 0
theorem ce_m {t : gT} {ad : Nat → Nat} {k : Nat} {g : Nat → Int32} (h : isM k) : ce t ad k g = .inr (1, [.ref (ad (k + 1)), .ref (ad (k + 2)), .ref (ad (k + 3)), .ref (ad (k + 4)), .ref (ad (k + 5)), .ref (ad (k + 6)), .ref (ad (k + 7)), .ref (ad (k + 8)), .int (g 8), .int (g 9), .int (g 10), .int (g 11), .int (g 12), .int (g 13), .int (g 14)]) := by
  unfold ce; rw [if_pos h.1, if_pos h.2]
theorem ce_ma {t : gT} {ad : Nat → Nat} {k f : Nat} {g : Nat → Int32} (h : isM k) (h1 : 1 ≤ f) (h7 : f ≤ 7) : ce t ad (k + f) g = .inl (t.1, 16, .inl g) := by
  have := h.1; have := h.2
  unfold ce; rw [if_pos (by omega), if_neg (by omega), if_neg (by omega)]
theorem ce_m8 {t : gT} {ad : Nat → Nat} {k : Nat} {g : Nat → Int32} (h : isM k) : ce t ad (k + 8) g = .inl (t.1, 3, .inl g) := by
  have := h.1; have := h.2
  unfold ce; rw [if_pos (by omega), if_neg (by omega), if_pos (by omega)]
theorem isM_lt {k f : Nat} (h : isM k) (hf : f ≤ 8) : k + f < 71 := by have := h.1; omega
abbrev tys (t : gT) : List (ClassId × FieldType) := [(t.1, .int), (t.2.1, .char), (t.2.2, .object "BlinkMesh$Mesh")]
def gws (t : gT) (ad : Nat → Nat) (G : gG) : va_W := (List.range 71).map (fun k => (ad k, ce t ad k (G k)))
theorem gws_at {t : gT} {ad : Nat → Nat} {G : gG} {k : Nat} (hk : k < 71) : (gws t ad G)[k]? = some (ad k, ce t ad k (G k)) := by
  simp [gws, hk]
theorem gws_ate {t : gT} {ad : Nat → Nat} {G : gG} {k : Nat} {e : va_E} (hk : k < 71) (he : ce t ad k (G k) = e) : (gws t ad G)[k]? = some (ad k, e) := by
  rw [gws_at hk, he]
theorem gws_set {t : gT} {ad : Nat → Nat} {G G' : gG} {k : Nat} {e : va_E} (hk : k < 71) (he : ce t ad k (G' k) = e) (h2 : ∀ j, j ≠ k → G' j = G j) : (gws t ad G).set k (ad k, e) = gws t ad G' := by
  apply List.ext_getElem?
  intro j
  by_cases hj : j = k
  · subst hj
    rw [List.getElem?_set_self (by simp [gws, hk]), gws_at hk, he]
  · rw [List.getElem?_set_ne (Ne.symm hj)]
    by_cases hl : j < 71
    · rw [gws_at hl, gws_at hl, h2 j hj]
    · simp [gws, Nat.le_of_not_lt hl]
def isW (ad : Nat → Nat) : Nat → Prop := fun q => ∃ k, k < 71 ∧ ad k = q
def lstT (j : Nat) : Int32 := if j = 0 then 10 else 0
def grtT (j : Nat) : Int32 := if j = 0 then 200 else if j = 1 then 100 else 99
def gS (ad : Nat → Nat) (A : Nat → Prop) (U : State) (H : Heap) : Prop :=
  va_Z "BlinkMesh" "LEAST_SETTING" "[I" (.ref (ad 80)) A U H ∧ va_T .int (ad 80) 3 (fun j => .int (lstT j)) A U H ∧ va_Z "BlinkMesh" "GREATEST_SETTING" "[I" (.ref (ad 81)) A U H ∧ va_T .int (ad 81) 3 (fun j => .int (grtT j)) A U H
theorem gS.to {ad : Nat → Nat} {A B : Nat → Prop} {u U : State} {H H1 : Heap} (h : gS ad A u H) (hvm : u.vm.Alike U.vm) (hq : ∀ a : Nat, a < H.size → ¬ A a → H1[a]? = H[a]?) (hAB : ∀ q, B q → A q) : gS ad B U H1 :=
  ⟨((h.1.moved hvm).kept hq).narrow hAB, ((h.2.1.moved hvm).kept hq).narrow hAB, ((h.2.2.1.moved hvm).kept hq).narrow hAB, ((h.2.2.2.moved hvm).kept hq).narrow hAB⟩
-- locals by their numbers
def lh (ls : Array Slot) (n : Nat) (Lv : List (Option Value)) : Prop := ls.size = n ∧ lv_wf ls ∧ ∀ (i : Nat) (v : Value), Lv[i]? = some (some v) → ls[i]? = some (.val v) ∧ (v.category = 1 ∨ ∀ w, Lv[i + 1]? ≠ some (some w))
def la (Lv : List (Option Value)) : List (Nat × Value) := (List.range Lv.length).filterMap (fun i => (Lv[i]?.join).map (fun v => (i, v)))
theorem la_mem {Lv : List (Option Value)} {q : Nat × Value} : q ∈ la Lv ↔ Lv[q.1]? = some (some q.2) := by
  unfold la
  rw [List.mem_filterMap]
  constructor
  · rintro ⟨i, hi, h⟩
    cases hx : Lv[i]? with
    | none => rw [hx] at h; simp at h
    | some o =>
      cases o with
      | none => rw [hx] at h; simp at h
      | some v => rw [hx] at h; simp at h; subst h; simpa using hx
  · intro h
    refine ⟨q.1, ?_, by rw [h]; rfl⟩
    rw [List.mem_range]
    exact (List.getElem?_eq_some_iff.mp h).1
theorem lh.has {ls : Array Slot} {n : Nat} {Lv : List (Option Value)} (h : lh ls n Lv) : lv_has ls n (la Lv) :=
  ⟨h.1, h.2.1, fun q hq => (h.2.2 q.1 q.2 (la_mem.mp hq)).1⟩
def okst (Lv : List (Option Value)) (i : Nat) : Bool := match i with
  | 0 => true
  | j + 1 => match Lv[j]? with
    | some (some w) => Nat.beq w.category 1
    | _ => true
theorem okst_e {Lv : List (Option Value)} {i j : Nat} {w : Value} (h : okst Lv i = true) (hj : Lv[j]? = some (some w)) (hc : ¬ w.category = 1) : ¬ j + 1 = i := by
  rintro rfl
  have h' : (match Lv[j]? with | some (some w) => Nat.beq w.category 1 | _ => true) = true := h
  rw [hj] at h'
  exact hc (Nat.eq_of_beq_eq_true h')
theorem lh.st {ls' : Array Slot} {ls : Array Slot} {n i : Nat} {v : Value} {Lv : List (Option Value)} (h : lh ls n Lv) (hc : v.category = 1) (hk : okst Lv i = true) (h' : lv_has ls' n ((i, v) :: (la Lv).filter (fun q => !(q.1 == i) && !(q.1 + 1 == i && q.2.category == 2)))) : lh ls' n (Lv.set i (some v)) := by
  refine ⟨h'.1, h'.2.1, fun j w hw => ?_⟩
  by_cases hj : j = i
  · subst hj
    have hw2 : w = v := by
      rw [List.getElem?_set] at hw
      split at hw
      · split at hw
        · simpa using hw.symm
        · simp at hw
      · rename_i hne; exact absurd rfl hne
    subst hw2
    exact ⟨h'.2.2 (j, w) List.mem_cons_self, Or.inl hc⟩
  · rw [List.getElem?_set_ne (Ne.symm hj)] at hw
    obtain ⟨-, hc2⟩ := h.2.2 j w hw
    by_cases c1 : w.category = 1
    · refine ⟨h'.2.2 (j, w) (List.mem_cons_of_mem _ (List.mem_filter.mpr ⟨la_mem.mpr hw, ?_⟩)), Or.inl c1⟩
      simp [hj, c1]
    · have hn := okst_e hk hw c1
      refine ⟨h'.2.2 (j, w) (List.mem_cons_of_mem _ (List.mem_filter.mpr ⟨la_mem.mpr hw, ?_⟩)), Or.inr (fun u => ?_)⟩
      · simp [hj, hn]
      · rw [List.getElem?_set_ne (Ne.symm hn)]
        exact hc2.resolve_left c1 u
theorem lh.st2 {ls' : Array Slot} {ls : Array Slot} {n i : Nat} {x : Int64} {Lv : List (Option Value)} (h : lh ls n Lv) (hk : okst Lv i = true) (h' : lv_has ls' n ((i, .long x) :: (la Lv).filter (fun q => !(q.1 == i) && (!(q.1 == i + 1) && !(q.1 + 1 == i && q.2.category == 2))))) : lh ls' n ((Lv.set i (some (.long x))).set (i + 1) none) := by
  refine ⟨h'.1, h'.2.1, fun j w hw => ?_⟩
  by_cases hj1 : j = i + 1
  · subst hj1
    rw [List.getElem?_set] at hw
    simp at hw
  · rw [List.getElem?_set_ne (Ne.symm hj1)] at hw
    by_cases hj : j = i
    · subst hj
      have hw2 : w = .long x := by
        rw [List.getElem?_set] at hw
        split at hw
        · split at hw
          · simpa using hw.symm
          · simp at hw
        · rename_i hne; exact absurd rfl hne
      subst hw2
      refine ⟨h'.2.2 (j, .long x) List.mem_cons_self, Or.inr (fun u hu => ?_)⟩
      rw [List.getElem?_set] at hu
      simp at hu
    · rw [List.getElem?_set_ne (Ne.symm hj)] at hw
      obtain ⟨-, hc2⟩ := h.2.2 j w hw
      by_cases c1 : w.category = 1
      · refine ⟨h'.2.2 (j, w) (List.mem_cons_of_mem _ (List.mem_filter.mpr ⟨la_mem.mpr hw, ?_⟩)), Or.inl c1⟩
        simp [hj, hj1, c1]
      · have hn := okst_e hk hw c1
        refine ⟨h'.2.2 (j, w) (List.mem_cons_of_mem _ (List.mem_filter.mpr ⟨la_mem.mpr hw, ?_⟩)), Or.inr (fun u hu => ?_)⟩
        · simp [hj, hj1, hn]
        · rw [List.getElem?_set_ne (by omega), List.getElem?_set_ne (Ne.symm hn)] at hu
          exact hc2.resolve_left c1 u hu
theorem lh.iok {ls : Array Slot} {n k : Nat} {v : Value} {Lv : List (Option Value)} (h : lh ls n Lv) (hi : Lv[k]? = some (some v)) : okst Lv k = true := by
  cases k with
  | zero => rfl
  | succ j =>
    show (match Lv[j]? with | some (some w) => Nat.beq w.category 1 | _ => true) = true
    cases hj : Lv[j]? with
    | none => rfl
    | some o =>
      cases o with
      | none => rfl
      | some w =>
        have := ((h.2.2 j w hj).2.resolve_right (fun q => q v hi))
        show Nat.beq w.category 1 = true
        rw [this]; rfl
theorem lh.mono {ls : Array Slot} {n : Nat} {Lv Lv' : List (Option Value)} (h : lh ls n Lv) (hs : ∀ (i : Nat) (v : Value), Lv'[i]? = some (some v) → Lv[i]? = some (some v)) : lh ls n Lv' :=
  ⟨h.1, h.2.1, fun i v hv => ⟨(h.2.2 i v (hs i v hv)).1, (h.2.2 i v (hs i v hv)).2.imp id (fun q w hw => q w (hs _ _ hw))⟩⟩
def gC (p : Program) (s : State) (m : MethodId) (args : Array Value) (meth : Method) (c : Code) (cc : ByteArray) (own : String) (n : Nat) (ret : Option FieldType) (A : Nat → Prop) (D : va_G) (t : gT) (ad : Nat → Nat) : Prop :=
  p.tables.exec = Jvm.exec ∧ c.code = cc ∧ c.maxLocals = n ∧ s.vm.findClass own = some m.cls ∧ (∀ w ∈ gtbl, w.before args s = true) ∧ va_K D vwCl (tys t) s ∧ (∀ i j, i < 71 → j < 71 → ad i = ad j → i = j) ∧ (∀ k, k < 71 → A (ad k)) ∧ gS ad A s s.heap ∧ gN s ∧ meth.sig.returnType = ret ∧ meth.locks = false
def V (p : Program) (l : Launch) (e : Env) (R : Room) (s : State) (m : MethodId) (args : Array Value) (below : List Frame) (meth : Method) (c : Code) (A : Nat → Prop) (D : va_G) (t : gT) (ad : Nat → Nat) (cells slots n : Nat) (Q : State → Prop) (G : gG) (pc : Nat) (Lv : List (Option Value)) (st : List Value) : Prop :=
  ∀ (H : Heap) (locs : List Loc) (ls : Array Slot), va_P D vwCl (gws t ad G) H → va_S A s.heap H locs → lh ls n Lv → W p l e R s m args below meth c H locs cells slots Q (F0 m pc ls st)
theorem gD {A : Nat → Prop} {t : gT} {ad : Nat → Nat} {G : gG} (hi : ∀ i j, i < 71 → j < 71 → ad i = ad j → i = j) (hA : ∀ k, k < 71 → A (ad k)) : va_D A (gws t ad G) := by
  have key : ∀ (i : Nat) (p : Nat × va_E), (gws t ad G)[i]? = some p → i < 71 ∧ p.1 = ad i := by
    intro i p h
    by_cases hl : i < 71
    · rw [gws_at hl] at h; cases h; exact ⟨hl, rfl⟩
    · simp [gws, Nat.le_of_not_lt hl] at h
  refine ⟨fun i j p q h1 h2 h => ?_, fun k q h => ?_⟩
  · obtain ⟨a1, a2⟩ := key i p h1
    obtain ⟨b1, b2⟩ := key j q h2
    exact hi i j a1 b1 (by rw [← a2, ← b2]; exact h)
  · obtain ⟨a1, a2⟩ := key k q h
    rw [a2]; exact hA k a1
theorem gc_D {p : Program} {s : State} {m : MethodId} {args : Array Value} {meth : Method} {c : Code} {cc : ByteArray} {own : String} {n : Nat} {ret : Option FieldType} {A : Nat → Prop} {D : va_G} {t : gT} {ad : Nat → Nat} (C : gC p s m args meth c cc own n ret A D t ad) (G : gG) : va_D A (gws t ad G) := gD C.2.2.2.2.2.2.1 C.2.2.2.2.2.2.2.1
section V1
variable {p : Program} {l : Launch} {e : Env} {R : Room} {s : State} {m : MethodId} {args : Array Value} {below : List Frame} {meth : Method} {c : Code} {A : Nat → Prop} {D : va_G} {t : gT} {ad : Nat → Nat} {cells slots n : Nat} {Q : State → Prop} {G : gG} {pc : Nat} {Lv : List (Option Value)} {st : List Value} {cc : ByteArray} {own : String} {ret : Option FieldType}
theorem v_iconst (C : gC p s m args meth c cc own n ret A D t ad) {z : Int} {v : Int32} (d : decode cc pc = .ok (.iconst z, 1)) (hv : Int32.ofInt z = v) (kk : V p l e R s m args below meth c A D t ad cells slots n Q G (pc + 1) Lv (.int v :: st)) : V p l e R s m args below meth c A D t ad cells slots n Q G pc Lv st :=
  fun H locs ls hP hS hl => lv_iconst C.1 C.2.1 d hv (kk H locs ls hP hS hl)
theorem v_bipush (C : gC p s m args meth c cc own n ret A D t ad) {z : Int} {v : Int32} (d : decode cc pc = .ok (.bipush z, 2)) (hv : (Int8.ofInt z).toInt32 = v) (kk : V p l e R s m args below meth c A D t ad cells slots n Q G (pc + 2) Lv (.int v :: st)) : V p l e R s m args below meth c A D t ad cells slots n Q G pc Lv st :=
  fun H locs ls hP hS hl => lv_bipush C.1 C.2.1 d hv (kk H locs ls hP hS hl)
theorem v_sipush (C : gC p s m args meth c cc own n ret A D t ad) {z : Int} {v : Int32} (d : decode cc pc = .ok (.sipush z, 3)) (hv : (Int16.ofInt z).toInt32 = v) (kk : V p l e R s m args below meth c A D t ad cells slots n Q G (pc + 3) Lv (.int v :: st)) : V p l e R s m args below meth c A D t ad cells slots n Q G pc Lv st :=
  fun H locs ls hP hS hl => lv_sipush C.1 C.2.1 d hv (kk H locs ls hP hS hl)
theorem v_iloadn (C : gC p s m args meth c cc own n ret A D t ad) {k : Fin 4} {x : Int32} (d : decode cc pc = .ok (.iload_n k, 1)) (hi : Lv[(k : Nat)]? = some (some (.int x))) (kk : V p l e R s m args below meth c A D t ad cells slots n Q G (pc + 1) Lv (.int x :: st)) : V p l e R s m args below meth c A D t ad cells slots n Q G pc Lv st :=
  fun H locs ls hP hS hl => lv_iload_n C.1 C.2.1 d rfl (hl.2.2 _ _ hi).1 (kk H locs ls hP hS hl)
theorem v_iload (C : gC p s m args meth c cc own n ret A D t ad) {k : Nat} {x : Int32} (d : decode cc pc = .ok (.iload k, 2)) (hi : Lv[k]? = some (some (.int x))) (kk : V p l e R s m args below meth c A D t ad cells slots n Q G (pc + 2) Lv (.int x :: st)) : V p l e R s m args below meth c A D t ad cells slots n Q G pc Lv st :=
  fun H locs ls hP hS hl => lv_iload C.1 C.2.1 d (hl.2.2 _ _ hi).1 (kk H locs ls hP hS hl)
theorem v_aloadn (C : gC p s m args meth c cc own n ret A D t ad) {k : Fin 4} {x : Nat} (d : decode cc pc = .ok (.aload_n k, 1)) (hi : Lv[(k : Nat)]? = some (some (.ref x))) (kk : V p l e R s m args below meth c A D t ad cells slots n Q G (pc + 1) Lv (.ref x :: st)) : V p l e R s m args below meth c A D t ad cells slots n Q G pc Lv st :=
  fun H locs ls hP hS hl => lv_aload_n C.1 C.2.1 d rfl (hl.2.2 _ _ hi).1 (kk H locs ls hP hS hl)
theorem v_istoren (C : gC p s m args meth c cc own n ret A D t ad) {k : Fin 4} {x : Int32} (d : decode cc pc = .ok (.istore_n k, 1)) (hn : (k : Nat) < n) (kk : V p l e R s m args below meth c A D t ad cells slots n Q G (pc + 1) (Lv.set k (some (.int x))) st) (hk : okst Lv (k : Nat) = true := by rfl) : V p l e R s m args below meth c A D t ad cells slots n Q G pc Lv (.int x :: st) :=
  fun H locs ls hP hS hl => lv_istore_n C.1 C.2.1 d rfl hl.has hn rfl (fun ls' hl' => kk H locs ls' hP hS (hl.st rfl hk hl'))
theorem v_istore (C : gC p s m args meth c cc own n ret A D t ad) {k : Nat} {x : Int32} (d : decode cc pc = .ok (.istore k, 2)) (hn : k < n) (kk : V p l e R s m args below meth c A D t ad cells slots n Q G (pc + 2) (Lv.set k (some (.int x))) st) (hk : okst Lv k = true := by rfl) : V p l e R s m args below meth c A D t ad cells slots n Q G pc Lv (.int x :: st) :=
  fun H locs ls hP hS hl => lv_istore C.1 C.2.1 d hl.has hn rfl (fun ls' hl' => kk H locs ls' hP hS (hl.st rfl hk hl'))
theorem v_astoren (C : gC p s m args meth c cc own n ret A D t ad) {k : Fin 4} {x : Nat} (d : decode cc pc = .ok (.astore_n k, 1)) (hn : (k : Nat) < n) (kk : V p l e R s m args below meth c A D t ad cells slots n Q G (pc + 1) (Lv.set k (some (.ref x))) st) (hk : okst Lv (k : Nat) = true := by rfl) : V p l e R s m args below meth c A D t ad cells slots n Q G pc Lv (.ref x :: st) :=
  fun H locs ls hP hS hl => lv_astore_n C.1 C.2.1 d rfl hl.has hn rfl (fun ls' hl' => kk H locs ls' hP hS (hl.st rfl hk hl'))
theorem v_iinc (C : gC p s m args meth c cc own n ret A D t ad) {k : Nat} {z : Int} {x v : Int32} (d : decode cc pc = .ok (.iinc k z, 3)) (hi : Lv[k]? = some (some (.int x))) (hv : Int32.ofInt z = v) (hn : k < n) (kk : V p l e R s m args below meth c A D t ad cells slots n Q G (pc + 3) (Lv.set k (some (.int (x + v)))) st) : V p l e R s m args below meth c A D t ad cells slots n Q G pc Lv st := by
  intro H locs ls hP hS hl
  obtain ⟨j, hj⟩ := List.getElem?_of_mem (la_mem (q := (k, Value.int x)).mpr hi)
  exact lv_iinc C.1 C.2.1 d hl.has (k := j) hj (by rw [hv]) hn rfl (fun ls' hl' => kk H locs ls' hP hS (hl.st rfl (hl.iok hi) hl'))
theorem v_lstoren (C : gC p s m args meth c cc own n ret A D t ad) {k : Fin 4} {x : Int64} (d : decode cc pc = .ok (.lstore_n k, 1)) (hn : (k : Nat) + 1 < n) (kk : V p l e R s m args below meth c A D t ad cells slots n Q G (pc + 1) ((Lv.set k (some (.long x))).set (k + 1) none) st) (hk : okst Lv (k : Nat) = true := by rfl) : V p l e R s m args below meth c A D t ad cells slots n Q G pc Lv (.long x :: st) :=
  fun H locs ls hP hS hl => lv_lstore_n C.1 C.2.1 d rfl hl.has hn rfl (fun ls' hl' => kk H locs ls' hP hS (hl.st2 hk hl'))
theorem v_lstore (C : gC p s m args meth c cc own n ret A D t ad) {k : Nat} {x : Int64} (d : decode cc pc = .ok (.lstore k, 2)) (hn : k + 1 < n) (kk : V p l e R s m args below meth c A D t ad cells slots n Q G (pc + 2) ((Lv.set k (some (.long x))).set (k + 1) none) st) (hk : okst Lv k = true := by rfl) : V p l e R s m args below meth c A D t ad cells slots n Q G pc Lv (.long x :: st) :=
  fun H locs ls hP hS hl => lv_lstore C.1 C.2.1 d hl.has hn rfl (fun ls' hl' => kk H locs ls' hP hS (hl.st2 hk hl'))
theorem v_lloadn (C : gC p s m args meth c cc own n ret A D t ad) {k : Fin 4} {x : Int64} (d : decode cc pc = .ok (.lload_n k, 1)) (hi : Lv[(k : Nat)]? = some (some (.long x))) (kk : V p l e R s m args below meth c A D t ad cells slots n Q G (pc + 1) Lv (.long x :: st)) : V p l e R s m args below meth c A D t ad cells slots n Q G pc Lv st :=
  fun H locs ls hP hS hl => lv_lload_n C.1 C.2.1 d rfl (hl.2.2 _ _ hi).1 (kk H locs ls hP hS hl)
theorem v_lload (C : gC p s m args meth c cc own n ret A D t ad) {k : Nat} {x : Int64} (d : decode cc pc = .ok (.lload k, 2)) (hi : Lv[k]? = some (some (.long x))) (kk : V p l e R s m args below meth c A D t ad cells slots n Q G (pc + 2) Lv (.long x :: st)) : V p l e R s m args below meth c A D t ad cells slots n Q G pc Lv st :=
  fun H locs ls hP hS hl => lv_lload C.1 C.2.1 d (hl.2.2 _ _ hi).1 (kk H locs ls hP hS hl)
theorem v_ladd (C : gC p s m args meth c cc own n ret A D t ad) {x y : Int64} (d : decode cc pc = .ok (.ladd, 1)) (kk : V p l e R s m args below meth c A D t ad cells slots n Q G (pc + 1) Lv (.long (x + y) :: st)) : V p l e R s m args below meth c A D t ad cells slots n Q G pc Lv (.long y :: .long x :: st) :=
  fun H locs ls hP hS hl => lv_ladd C.1 C.2.1 d (kk H locs ls hP hS hl)
theorem v_lmul (C : gC p s m args meth c cc own n ret A D t ad) {x y : Int64} (d : decode cc pc = .ok (.lmul, 1)) (kk : V p l e R s m args below meth c A D t ad cells slots n Q G (pc + 1) Lv (.long (x * y) :: st)) : V p l e R s m args below meth c A D t ad cells slots n Q G pc Lv (.long y :: .long x :: st) :=
  fun H locs ls hP hS hl => lv_lmul C.1 C.2.1 d (kk H locs ls hP hS hl)
theorem v_i2l (C : gC p s m args meth c cc own n ret A D t ad) {x : Int32} (d : decode cc pc = .ok (.i2l, 1)) (kk : V p l e R s m args below meth c A D t ad cells slots n Q G (pc + 1) Lv (.long x.toInt64 :: st)) : V p l e R s m args below meth c A D t ad cells slots n Q G pc Lv (.int x :: st) :=
  fun H locs ls hP hS hl => lv_i2l C.1 C.2.1 d rfl (kk H locs ls hP hS hl)
theorem v_lcmp (C : gC p s m args meth c cc own n ret A D t ad) {x y : Int64} (d : decode cc pc = .ok (.lcmp, 1)) (kk : V p l e R s m args below meth c A D t ad cells slots n Q G (pc + 1) Lv (.int (lg_cmp x y) :: st)) : V p l e R s m args below meth c A D t ad cells slots n Q G pc Lv (.long y :: .long x :: st) :=
  fun H locs ls hP hS hl => W.lcmp C.1 C.2.1 d (kk H locs ls hP hS hl)
theorem v_ldc2 (C : gC p s m args meth c cc own n ret A D t ad) {v : Int64} {index : Nat} (hlink : Cond.constantLong own index v ∈ gtbl) (d : decode cc pc = .ok (.ldc2_w index, 3)) (kk : V p l e R s m args below meth c A D t ad cells slots n Q G (pc + 3) Lv (.long v :: st)) : V p l e R s m args below meth c A D t ad cells slots n Q G pc Lv st :=
  fun H locs ls hP hS hl => lv_ldc2 C.1 C.2.1 C.2.2.2.1 (C.2.2.2.2.1 _ hlink) d (kk H locs ls hP hS hl)
theorem v_iadd (C : gC p s m args meth c cc own n ret A D t ad) {x y : Int32} (d : decode cc pc = .ok (.iadd, 1)) (kk : V p l e R s m args below meth c A D t ad cells slots n Q G (pc + 1) Lv (.int (x + y) :: st)) : V p l e R s m args below meth c A D t ad cells slots n Q G pc Lv (.int y :: .int x :: st) :=
  fun H locs ls hP hS hl => lv_iadd C.1 C.2.1 d (kk H locs ls hP hS hl)
theorem v_isub (C : gC p s m args meth c cc own n ret A D t ad) {x y : Int32} (d : decode cc pc = .ok (.isub, 1)) (kk : V p l e R s m args below meth c A D t ad cells slots n Q G (pc + 1) Lv (.int (x - y) :: st)) : V p l e R s m args below meth c A D t ad cells slots n Q G pc Lv (.int y :: .int x :: st) :=
  fun H locs ls hP hS hl => lv_isub C.1 C.2.1 d (kk H locs ls hP hS hl)
theorem v_imul (C : gC p s m args meth c cc own n ret A D t ad) {x y : Int32} (d : decode cc pc = .ok (.imul, 1)) (kk : V p l e R s m args below meth c A D t ad cells slots n Q G (pc + 1) Lv (.int (x * y) :: st)) : V p l e R s m args below meth c A D t ad cells slots n Q G pc Lv (.int y :: .int x :: st) :=
  fun H locs ls hP hS hl => lv_imul C.1 C.2.1 d (kk H locs ls hP hS hl)
theorem v_idiv (C : gC p s m args meth c cc own n ret A D t ad) {x y : Int32} (d : decode cc pc = .ok (.idiv, 1)) (hne : ¬ y = 0) (kk : V p l e R s m args below meth c A D t ad cells slots n Q G (pc + 1) Lv (.int (x / y) :: st)) : V p l e R s m args below meth c A D t ad cells slots n Q G pc Lv (.int y :: .int x :: st) :=
  fun H locs ls hP hS hl => lv_idiv C.1 C.2.1 d hne (kk H locs ls hP hS hl)
theorem v_irem (C : gC p s m args meth c cc own n ret A D t ad) {x y : Int32} (d : decode cc pc = .ok (.irem, 1)) (hne : ¬ y = 0) (kk : V p l e R s m args below meth c A D t ad cells slots n Q G (pc + 1) Lv (.int (x - x / y * y) :: st)) : V p l e R s m args below meth c A D t ad cells slots n Q G pc Lv (.int y :: .int x :: st) :=
  fun H locs ls hP hS hl => lv_irem C.1 C.2.1 d hne (kk H locs ls hP hS hl)
theorem v_ineg (C : gC p s m args meth c cc own n ret A D t ad) {x : Int32} (d : decode cc pc = .ok (.ineg, 1)) (kk : V p l e R s m args below meth c A D t ad cells slots n Q G (pc + 1) Lv (.int (-x) :: st)) : V p l e R s m args below meth c A D t ad cells slots n Q G pc Lv (.int x :: st) :=
  fun H locs ls hP hS hl => lv_ineg C.1 C.2.1 d (kk H locs ls hP hS hl)
theorem v_ishl (C : gC p s m args meth c cc own n ret A D t ad) {x y : Int32} (d : decode cc pc = .ok (.ishl, 1)) (kk : V p l e R s m args below meth c A D t ad cells slots n Q G (pc + 1) Lv (.int (x <<< (y &&& 31)) :: st)) : V p l e R s m args below meth c A D t ad cells slots n Q G pc Lv (.int y :: .int x :: st) :=
  fun H locs ls hP hS hl => lv_ishl C.1 C.2.1 d (kk H locs ls hP hS hl)
theorem v_ishr (C : gC p s m args meth c cc own n ret A D t ad) {x y : Int32} (d : decode cc pc = .ok (.ishr, 1)) (kk : V p l e R s m args below meth c A D t ad cells slots n Q G (pc + 1) Lv (.int (x >>> (y &&& 31)) :: st)) : V p l e R s m args below meth c A D t ad cells slots n Q G pc Lv (.int y :: .int x :: st) :=
  fun H locs ls hP hS hl => lv_ishr C.1 C.2.1 d (kk H locs ls hP hS hl)
theorem v_iand (C : gC p s m args meth c cc own n ret A D t ad) {x y : Int32} (d : decode cc pc = .ok (.iand, 1)) (kk : V p l e R s m args below meth c A D t ad cells slots n Q G (pc + 1) Lv (.int (x &&& y) :: st)) : V p l e R s m args below meth c A D t ad cells slots n Q G pc Lv (.int y :: .int x :: st) :=
  fun H locs ls hP hS hl => lv_iand C.1 C.2.1 d (kk H locs ls hP hS hl)
theorem v_ior (C : gC p s m args meth c cc own n ret A D t ad) {x y : Int32} (d : decode cc pc = .ok (.ior, 1)) (kk : V p l e R s m args below meth c A D t ad cells slots n Q G (pc + 1) Lv (.int (x ||| y) :: st)) : V p l e R s m args below meth c A D t ad cells slots n Q G pc Lv (.int y :: .int x :: st) :=
  fun H locs ls hP hS hl => lv_ior C.1 C.2.1 d (kk H locs ls hP hS hl)
theorem v_ixor (C : gC p s m args meth c cc own n ret A D t ad) {x y : Int32} (d : decode cc pc = .ok (.ixor, 1)) (kk : V p l e R s m args below meth c A D t ad cells slots n Q G (pc + 1) Lv (.int (x ^^^ y) :: st)) : V p l e R s m args below meth c A D t ad cells slots n Q G pc Lv (.int y :: .int x :: st) :=
  fun H locs ls hP hS hl => lv_ixor C.1 C.2.1 d (kk H locs ls hP hS hl)
theorem v_i2c (C : gC p s m args meth c cc own n ret A D t ad) {x : Int32} (d : decode cc pc = .ok (.i2c, 1)) (kk : V p l e R s m args below meth c A D t ad cells slots n Q G (pc + 1) Lv (.int (x.toUInt32 % 65536).toInt32 :: st)) : V p l e R s m args below meth c A D t ad cells slots n Q G pc Lv (.int x :: st) :=
  fun H locs ls hP hS hl => lv_i2c C.1 C.2.1 d rfl (kk H locs ls hP hS hl)
theorem v_dup (C : gC p s m args meth c cc own n ret A D t ad) {x : Value} (d : decode cc pc = .ok (.dup, 1)) (hx : x.category = 1) (kk : V p l e R s m args below meth c A D t ad cells slots n Q G (pc + 1) Lv (x :: x :: st)) : V p l e R s m args below meth c A D t ad cells slots n Q G pc Lv (x :: st) :=
  fun H locs ls hP hS hl => lv_dup C.1 C.2.1 d hx (kk H locs ls hP hS hl)
theorem v_pop (C : gC p s m args meth c cc own n ret A D t ad) {x : Value} (d : decode cc pc = .ok (.pop, 1)) (hx : x.category = 1) (kk : V p l e R s m args below meth c A D t ad cells slots n Q G (pc + 1) Lv st) : V p l e R s m args below meth c A D t ad cells slots n Q G pc Lv (x :: st) :=
  fun H locs ls hP hS hl => lv_pop C.1 C.2.1 d hx (kk H locs ls hP hS hl)
theorem v_dup2 (C : gC p s m args meth c cc own n ret A D t ad) {x y : Value} (d : decode cc pc = .ok (.dup2, 1)) (hx : x.category = 1) (hy : y.category = 1) (kk : V p l e R s m args below meth c A D t ad cells slots n Q G (pc + 1) Lv (x :: y :: x :: y :: st)) : V p l e R s m args below meth c A D t ad cells slots n Q G pc Lv (x :: y :: st) :=
  fun H locs ls hP hS hl => lv_dup2_11 C.1 C.2.1 d hx hy (kk H locs ls hP hS hl)
theorem v_goto (C : gC p s m args meth c cc own n ret A D t ad) {off : Int} (tgt : Nat) (d : decode cc pc = .ok (.goto off, 3)) (ht : (pc : Int) + off = (tgt : Int)) (kk : V p l e R s m args below meth c A D t ad cells slots n Q G tgt Lv st) : V p l e R s m args below meth c A D t ad cells slots n Q G pc Lv st :=
  fun H locs ls hP hS hl => lv_goto C.1 C.2.1 d ht (kk H locs ls hP hS hl)
theorem v_tabOut (C : gC p s m args meth c cc own n ret A D t ad) {dflt lo hi : Int} {offs : Array Int} {len : Nat} {x : Int32} (tgt : Nat) (d : decode cc pc = .ok (.tableswitch dflt lo hi offs, len)) (h : x.toInt < lo ∨ hi < x.toInt) (ht : (pc : Int) + dflt = (tgt : Int)) (kk : V p l e R s m args below meth c A D t ad cells slots n Q G tgt Lv st) : V p l e R s m args below meth c A D t ad cells slots n Q G pc Lv (.int x :: st) :=
  fun H locs ls hP hS hl => lv_tableOut C.1 C.2.1 d h ht (kk H locs ls hP hS hl)
theorem v_tabIn (C : gC p s m args meth c cc own n ret A D t ad) {dflt lo hi : Int} {offs : Array Int} {len : Nat} {x : Int32} {off : Int} (tgt : Nat) (d : decode cc pc = .ok (.tableswitch dflt lo hi offs, len)) (h1 : ¬ x.toInt < lo) (h2 : ¬ hi < x.toInt) (ho : offs[(x.toInt - lo).toNat]? = some off) (ht : (pc : Int) + off = (tgt : Int)) (kk : V p l e R s m args below meth c A D t ad cells slots n Q G tgt Lv st) : V p l e R s m args below meth c A D t ad cells slots n Q G pc Lv (.int x :: st) :=
  fun H locs ls hP hS hl => lv_tableIn C.1 C.2.1 d h1 h2 ho ht (kk H locs ls hP hS hl)
theorem v_if_eq (C : gC p s m args meth c cc own n ret A D t ad) {x : Int32} {off : Int} (tgt : Nat) (d : decode cc pc = .ok (.ifCond .eq off, 3)) (ht : (pc : Int) + off = (tgt : Int)) (kt : x = 0 → V p l e R s m args below meth c A D t ad cells slots n Q G tgt Lv st) (kf : ¬ x = 0 → V p l e R s m args below meth c A D t ad cells slots n Q G (pc + 3) Lv st) : V p l e R s m args below meth c A D t ad cells slots n Q G pc Lv (.int x :: st) :=
  fun H locs ls hP hS hl => lv_if_eq C.1 C.2.1 d ht (fun h => kt h H locs ls hP hS hl) (fun h => kf h H locs ls hP hS hl)
theorem v_ic_eq (C : gC p s m args meth c cc own n ret A D t ad) {x y : Int32} {off : Int} (tgt : Nat) (d : decode cc pc = .ok (.if_icmp .eq off, 3)) (ht : (pc : Int) + off = (tgt : Int)) (kt : x = y → V p l e R s m args below meth c A D t ad cells slots n Q G tgt Lv st) (kf : ¬ x = y → V p l e R s m args below meth c A D t ad cells slots n Q G (pc + 3) Lv st) : V p l e R s m args below meth c A D t ad cells slots n Q G pc Lv (.int y :: .int x :: st) :=
  fun H locs ls hP hS hl => lv_icmp_eq C.1 C.2.1 d ht (fun h => kt h H locs ls hP hS hl) (fun h => kf h H locs ls hP hS hl)
theorem v_if_ne (C : gC p s m args meth c cc own n ret A D t ad) {x : Int32} {off : Int} (tgt : Nat) (d : decode cc pc = .ok (.ifCond .ne off, 3)) (ht : (pc : Int) + off = (tgt : Int)) (kt : ¬ x = 0 → V p l e R s m args below meth c A D t ad cells slots n Q G tgt Lv st) (kf : x = 0 → V p l e R s m args below meth c A D t ad cells slots n Q G (pc + 3) Lv st) : V p l e R s m args below meth c A D t ad cells slots n Q G pc Lv (.int x :: st) :=
  fun H locs ls hP hS hl => lv_if_ne C.1 C.2.1 d ht (fun h => kt h H locs ls hP hS hl) (fun h => kf h H locs ls hP hS hl)
theorem v_ic_ne (C : gC p s m args meth c cc own n ret A D t ad) {x y : Int32} {off : Int} (tgt : Nat) (d : decode cc pc = .ok (.if_icmp .ne off, 3)) (ht : (pc : Int) + off = (tgt : Int)) (kt : ¬ x = y → V p l e R s m args below meth c A D t ad cells slots n Q G tgt Lv st) (kf : x = y → V p l e R s m args below meth c A D t ad cells slots n Q G (pc + 3) Lv st) : V p l e R s m args below meth c A D t ad cells slots n Q G pc Lv (.int y :: .int x :: st) :=
  fun H locs ls hP hS hl => lv_icmp_ne C.1 C.2.1 d ht (fun h => kt h H locs ls hP hS hl) (fun h => kf h H locs ls hP hS hl)
theorem v_if_lt (C : gC p s m args meth c cc own n ret A D t ad) {x : Int32} {off : Int} (tgt : Nat) (d : decode cc pc = .ok (.ifCond .lt off, 3)) (ht : (pc : Int) + off = (tgt : Int)) (kt : x < 0 → V p l e R s m args below meth c A D t ad cells slots n Q G tgt Lv st) (kf : ¬ x < 0 → V p l e R s m args below meth c A D t ad cells slots n Q G (pc + 3) Lv st) : V p l e R s m args below meth c A D t ad cells slots n Q G pc Lv (.int x :: st) :=
  fun H locs ls hP hS hl => lv_if_lt C.1 C.2.1 d ht (fun h => kt h H locs ls hP hS hl) (fun h => kf h H locs ls hP hS hl)
theorem v_ic_lt (C : gC p s m args meth c cc own n ret A D t ad) {x y : Int32} {off : Int} (tgt : Nat) (d : decode cc pc = .ok (.if_icmp .lt off, 3)) (ht : (pc : Int) + off = (tgt : Int)) (kt : x < y → V p l e R s m args below meth c A D t ad cells slots n Q G tgt Lv st) (kf : ¬ x < y → V p l e R s m args below meth c A D t ad cells slots n Q G (pc + 3) Lv st) : V p l e R s m args below meth c A D t ad cells slots n Q G pc Lv (.int y :: .int x :: st) :=
  fun H locs ls hP hS hl => lv_icmp_lt C.1 C.2.1 d ht (fun h => kt h H locs ls hP hS hl) (fun h => kf h H locs ls hP hS hl)
theorem v_if_ge (C : gC p s m args meth c cc own n ret A D t ad) {x : Int32} {off : Int} (tgt : Nat) (d : decode cc pc = .ok (.ifCond .ge off, 3)) (ht : (pc : Int) + off = (tgt : Int)) (kt : 0 ≤ x → V p l e R s m args below meth c A D t ad cells slots n Q G tgt Lv st) (kf : ¬ 0 ≤ x → V p l e R s m args below meth c A D t ad cells slots n Q G (pc + 3) Lv st) : V p l e R s m args below meth c A D t ad cells slots n Q G pc Lv (.int x :: st) :=
  fun H locs ls hP hS hl => lv_if_ge C.1 C.2.1 d ht (fun h => kt h H locs ls hP hS hl) (fun h => kf h H locs ls hP hS hl)
theorem v_ic_ge (C : gC p s m args meth c cc own n ret A D t ad) {x y : Int32} {off : Int} (tgt : Nat) (d : decode cc pc = .ok (.if_icmp .ge off, 3)) (ht : (pc : Int) + off = (tgt : Int)) (kt : y ≤ x → V p l e R s m args below meth c A D t ad cells slots n Q G tgt Lv st) (kf : ¬ y ≤ x → V p l e R s m args below meth c A D t ad cells slots n Q G (pc + 3) Lv st) : V p l e R s m args below meth c A D t ad cells slots n Q G pc Lv (.int y :: .int x :: st) :=
  fun H locs ls hP hS hl => lv_icmp_ge C.1 C.2.1 d ht (fun h => kt h H locs ls hP hS hl) (fun h => kf h H locs ls hP hS hl)
theorem v_if_gt (C : gC p s m args meth c cc own n ret A D t ad) {x : Int32} {off : Int} (tgt : Nat) (d : decode cc pc = .ok (.ifCond .gt off, 3)) (ht : (pc : Int) + off = (tgt : Int)) (kt : 0 < x → V p l e R s m args below meth c A D t ad cells slots n Q G tgt Lv st) (kf : ¬ 0 < x → V p l e R s m args below meth c A D t ad cells slots n Q G (pc + 3) Lv st) : V p l e R s m args below meth c A D t ad cells slots n Q G pc Lv (.int x :: st) :=
  fun H locs ls hP hS hl => lv_if_gt C.1 C.2.1 d ht (fun h => kt h H locs ls hP hS hl) (fun h => kf h H locs ls hP hS hl)
theorem v_ic_gt (C : gC p s m args meth c cc own n ret A D t ad) {x y : Int32} {off : Int} (tgt : Nat) (d : decode cc pc = .ok (.if_icmp .gt off, 3)) (ht : (pc : Int) + off = (tgt : Int)) (kt : y < x → V p l e R s m args below meth c A D t ad cells slots n Q G tgt Lv st) (kf : ¬ y < x → V p l e R s m args below meth c A D t ad cells slots n Q G (pc + 3) Lv st) : V p l e R s m args below meth c A D t ad cells slots n Q G pc Lv (.int y :: .int x :: st) :=
  fun H locs ls hP hS hl => lv_icmp_gt C.1 C.2.1 d ht (fun h => kt h H locs ls hP hS hl) (fun h => kf h H locs ls hP hS hl)
theorem v_if_le (C : gC p s m args meth c cc own n ret A D t ad) {x : Int32} {off : Int} (tgt : Nat) (d : decode cc pc = .ok (.ifCond .le off, 3)) (ht : (pc : Int) + off = (tgt : Int)) (kt : x ≤ 0 → V p l e R s m args below meth c A D t ad cells slots n Q G tgt Lv st) (kf : ¬ x ≤ 0 → V p l e R s m args below meth c A D t ad cells slots n Q G (pc + 3) Lv st) : V p l e R s m args below meth c A D t ad cells slots n Q G pc Lv (.int x :: st) :=
  fun H locs ls hP hS hl => lv_if_le C.1 C.2.1 d ht (fun h => kt h H locs ls hP hS hl) (fun h => kf h H locs ls hP hS hl)
theorem v_ic_le (C : gC p s m args meth c cc own n ret A D t ad) {x y : Int32} {off : Int} (tgt : Nat) (d : decode cc pc = .ok (.if_icmp .le off, 3)) (ht : (pc : Int) + off = (tgt : Int)) (kt : x ≤ y → V p l e R s m args below meth c A D t ad cells slots n Q G tgt Lv st) (kf : ¬ x ≤ y → V p l e R s m args below meth c A D t ad cells slots n Q G (pc + 3) Lv st) : V p l e R s m args below meth c A D t ad cells slots n Q G pc Lv (.int y :: .int x :: st) :=
  fun H locs ls hP hS hl => lv_icmp_le C.1 C.2.1 d ht (fun h => kt h H locs ls hP hS hl) (fun h => kf h H locs ls hP hS hl)
theorem v_wk (kk : V p l e R s m args below meth c A D t ad cells slots n Q G pc Lv st) {Lv' : List (Option Value)} (hs : ∀ (i : Nat) (v : Value), Lv[i]? = some (some v) → Lv'[i]? = some (some v)) : V p l e R s m args below meth c A D t ad cells slots n Q G pc Lv' st :=
  fun H locs ls hP hS hl => kk H locs ls hP hS (hl.mono hs)
end V1
end
section
theorem gc_x {p : Program} {s : State} {m : MethodId} {args : Array Value} {meth : Method} {c : Code} {cc : ByteArray} {own : String} {n : Nat} {ret : Option FieldType} {A : Nat → Prop} {D : va_G} {t : gT} {ad : Nat → Nat} (C : gC p s m args meth c cc own n ret A D t ad) : (∀ w ∈ gtbl, w.before args s = true) ∧ va_K D vwCl (tys t) s ∧ (∀ k, k < 71 → A (ad k)) ∧ gS ad A s s.heap ∧ gN s ∧ meth.sig.returnType = ret ∧ meth.locks = false := ⟨C.2.2.2.2.1, C.2.2.2.2.2.1, C.2.2.2.2.2.2.2.1, C.2.2.2.2.2.2.2.2.1, C.2.2.2.2.2.2.2.2.2.1, C.2.2.2.2.2.2.2.2.2.2.1, C.2.2.2.2.2.2.2.2.2.2.2⟩
def gP (D : va_G) (t : gT) (ad : Nat → Nat) (G : gG) (U : State) : Prop := va_P D vwCl (gws t ad G) U.heap ∧ va_K D vwCl (tys t) U ∧ gS ad (isW ad) U U.heap ∧ gN U
def gI (ad : Nat → Nat) : Prop := ∀ i j, i < 71 → j < 71 → ad i = ad j → i = j
theorem gP_blind {D : va_G} {t : gT} {ad : Nat → Nat} {G : gG} {av : List Value} : FrameBlind (va_Pc av (gP D t ad G)) := by
  intro a U g mk h
  obtain ⟨h0, h1, h2, h3, h4⟩ := h
  exact ⟨h0, h1, va_K.moved (u := U) (U := U.calling g mk a) (Vm.Alike.refl U.vm) h2, gS.to h3 (U := U.calling g mk a) (Vm.Alike.refl U.vm) (fun _ _ _ => rfl) (fun _ h => h), gN.same (s := U) (U := U.calling g mk a) rfl h4⟩
abbrev wM (y : MethodName) (b : ByteArray) (n : Nat) (ret : Option FieldType) : List Cond := .code y b n ret :: gtbl
abbrev rM (f loc : Nat) : Room := { frames := f, cells := 0, slots := 0, locals := loc }
def Mi (l : Launch) (D : va_G) (t : gT) (ad : Nat → Nat) (y : MethodName) (b : ByteArray) (n : Nat) (ret : Option FieldType) (rm : Room) (av : List Value) (G : gG) (r : Int32) (G' : gG) : Prop :=
  Met l y (wM y b n ret) rm (va_Pc av (gP D t ad G)) (va_Qi (fun (r' : Int32) (_ : Unit) => r' = r) (fun _ U => va_P D vwCl (gws t ad G') U.heap) (isW ad)) 0 0 (isW ad)
def Mv (l : Launch) (D : va_G) (t : gT) (ad : Nat → Nat) (y : MethodName) (b : ByteArray) (n : Nat) (rm : Room) (av : List Value) (G : gG) (G' : gG) : Prop :=
  Met l y (wM y b n none) rm (va_Pc av (gP D t ad G)) (va_Qv (fun (_ : Unit) => True) (fun _ U => va_P D vwCl (gws t ad G') U.heap) (isW ad)) 0 0 (isW ad)
def Ml (l : Launch) (D : va_G) (t : gT) (ad : Nat → Nat) (y : MethodName) (b : ByteArray) (n : Nat) (rm : Room) (av : List Value) (G : gG) (r : Int64) : Prop :=
  Met l y (wM y b n (some .long)) rm (va_Pc av (gP D t ad G)) (va_Ql (fun (r' : Int64) (_ : Unit) => r' = r) (fun _ U => va_P D vwCl (gws t ad G) U.heap) (isW ad)) 0 0 (isW ad)
abbrev Ql (below : List Frame) (D : va_G) (t : gT) (ad : Nat → Nat) (args : Array Value) (s : State) (r : Int64) (G' : gG) : State → Prop := MQ below (va_Ql (fun (r' : Int64) (_ : Unit) => r' = r) (fun _ U => va_P D vwCl (gws t ad G') U.heap) (isW ad)) args s 0 0 (isW ad)
abbrev Qi (below : List Frame) (D : va_G) (t : gT) (ad : Nat → Nat) (args : Array Value) (s : State) (r : Int32) (G' : gG) : State → Prop := MQ below (va_Qi (fun (r' : Int32) (_ : Unit) => r' = r) (fun _ U => va_P D vwCl (gws t ad G') U.heap) (isW ad)) args s 0 0 (isW ad)
abbrev Qv (below : List Frame) (D : va_G) (t : gT) (ad : Nat → Nat) (args : Array Value) (s : State) (G' : gG) : State → Prop := MQ below (va_Qv (fun (_ : Unit) => True) (fun _ U => va_P D vwCl (gws t ad G') U.heap) (isW ad)) args s 0 0 (isW ad)
/-- a method's entry -/
theorem m_in {l : Launch} {D : va_G} {t : gT} {ad : Nat → Nat} {y : MethodName} {b : ByteArray} {n : Nat} {ret : Option FieldType} {rm : Room} {av : List Value} {G : gG} {Qc : Array Value → State → Outcome → State → Prop} (hI : gI ad) (hy : plainName y.cls = true) (hrc : rm.cells = 0 ∧ rm.slots = 0) (hlen : (lg_sl av).length ≤ n) (hcat : ∀ q ∈ lv_args 0 av, q.2.category = 1) (Lv : List (Option Value)) (hLv : ∀ (i : Nat) (v : Value), Lv[i]? = some (some v) → (i, v) ∈ lv_args 0 av)
    (body : ∀ (p : Program) (e : Env) (s : State) (m : MethodId) (args : Array Value) (below : List Frame) (meth : Method) (c : Code), gC p s m args meth c b y.cls n ret (isW ad) D t ad → V p l e rm s m args below meth c (isW ad) D t ad 0 0 n (MQ below Qc args s 0 0 (isW ad)) G 0 Lv []) : Met l y (wM y b n ret) rm (va_Pc av (gP D t ad G)) Qc 0 0 (isW ad) := by
  refine Met.ofW (cc := b) (maxL := n) (ret := ret) hy rfl ?_
  intro p e s m args below meth c s₁ B hml hv
  obtain ⟨rfl, hP, hK, hS, hN⟩ := hv
  have hts : ∀ w ∈ wM y b n ret, w.before av.toArray s = true := atoms_spec (ws := wM y b n ret) B.pre
  have hl := lv_entry av (n := n) hlen
  rw [lg_entry_eq]
  exact body p e s m _ below meth c ⟨B.exec, B.bytes, hml, findClass_of_methodNamed B.named, fun w hw => hts w (List.mem_cons_of_mem _ hw), hK, hI, fun k hk => ⟨k, hk, rfl⟩, hS, hN, B.returns, B.notSynchronized⟩ s.heap [] _ hP va_S.rf ⟨hl.1, hl.2.1, fun i v hv => ⟨hl.2.2 _ (hLv i v hv), Or.inl (hcat _ (hLv i v hv))⟩⟩
section V2
variable {p : Program} {l : Launch} {e : Env} {R : Room} {s : State} {m : MethodId} {args : Array Value} {below : List Frame} {meth : Method} {c : Code} {A : Nat → Prop} {D : va_G} {t : gT} {ad : Nat → Nat} {cells slots n : Nat} {Q : State → Prop} {G : gG} {pc : Nat} {Lv : List (Option Value)} {st : List Value} {cc : ByteArray} {own : String} {ret : Option FieldType}
theorem v_get (C : gC p s m args meth c cc own n ret A D t ad) {ci N k index : Nat} {Cn ref : String} {T : u_T} {fs : List Value} {v : Value} (hk : k < 71) (hce : ce t ad k (G k) = .inr (ci, fs)) (hc : vwCl[ci]? = some (Cn, T, N)) (hin : ∀ w ∈ u_ws Cn T N, w ∈ gtbl) (f : Nat) (hf : f < N) (hlink : Cond.fieldLink own index ref (T f).2.1 (T f).2.2.1 ∈ gtbl) (href : (T f).1 = ref) (hv : fs[f]? = some v) (d : decode cc pc = .ok (.getfield index, 3)) (kk : V p l e R s m args below meth c A D t ad cells slots n Q G (pc + 3) Lv (v :: st)) : V p l e R s m args below meth c A D t ad cells slots n Q G pc Lv (.ref (ad k) :: st) :=
  fun H locs ls hP hS hl => va_get C.1 C.2.1 (gc_x C).1 hin C.2.2.2.1 (gc_x C).2.1 hP k (gws_ate hk hce) hc f hf ((gc_x C).1 _ hlink) (fun _ h => by rw [← href]; exact h) hv d (kk H locs ls hP hS hl)
theorem v_put (C : gC p s m args meth c cc own n ret A D t ad) {ci N k index : Nat} {Cn ref : String} {T : u_T} {fs : List Value} {x : Int32} {ty : FieldType} (hk : k < 71) (hce : ce t ad k (G k) = .inr (ci, fs)) (hc : vwCl[ci]? = some (Cn, T, N)) (hin : ∀ w ∈ u_ws Cn T N, w ∈ gtbl) (ty0 : Nat → FieldType) (hty : ∀ k, k < N → parseFieldDescriptor (T k).2.2.1 = some (ty0 k)) (hnm : ∀ a, a < N → ∀ b, b < N → a ≠ b → (T a).2.1 ≠ (T b).2.1) (f : Nat) (hf : f < N) (hlink : Cond.fieldLink own index ref (T f).2.1 (T f).2.2.1 ∈ gtbl) (href : (T f).1 = ref) (hfin : (T f).2.2.2 = false) (hd : parseFieldDescriptor (T f).2.2.1 = some ty) (hn : narrow ty (.int x) = .int x) (hfit : fits ty (.int x) = true) (hl0 : f < fs.length) (hce' : ce t ad k (gu G k f x k) = .inr (ci, fs.set f (.int x))) (d : decode cc pc = .ok (.putfield index, 3)) (kk : V p l e R s m args below meth c A D t ad cells slots n Q (gu G k f x) (pc + 3) Lv st) : V p l e R s m args below meth c A D t ad cells slots n Q G pc Lv (.int x :: .ref (ad k) :: st) := by
  intro H locs ls hP hS hl
  refine va_put C.1 C.2.1 (gc_x C).1 hin ty0 hty hnm C.2.2.2.1 (gc_x C).2.1 hP (gc_D C G) hS k (gws_ate hk hce) hc f hf ((gc_x C).1 _ hlink) (fun _ h => by rw [← href]; exact h) hfin hd hn hfit hl0 d (fun H1 locs1 hP1 _ hS1 => ?_)
  rw [gws_set (G := G) (G' := gu G k f x) hk hce' (fun j hj => gu_ne hj)] at hP1
  exact kk H1 locs1 ls hP1 hS1 hl
theorem v_ld (C : gC p s m args meth c cc own n ret A D t ad) {k N : Nat} {i : Int32} (hk : k < 71) (hce : ce t ad k (G k) = .inl (t.1, N, .inl (G k))) (hin : vp_in i N) (d : decode cc pc = .ok (.iaload, 1)) (kk : V p l e R s m args below meth c A D t ad cells slots n Q G (pc + 1) Lv (.int (G k i.toNatClampNeg) :: st)) : V p l e R s m args below meth c A D t ad cells slots n Q G pc Lv (.int i :: .ref (ad k) :: st) :=
  fun H locs ls hP hS hl => va_iald C.1 C.2.1 (gc_x C).2.1 hP k 0 (gws_ate hk hce) rfl hin d (kk H locs ls hP hS hl)
theorem v_cld (C : gC p s m args meth c cc own n ret A D t ad) {k N : Nat} {i : Int32} (hk : k < 71) (hce : ce t ad k (G k) = .inl (t.2.1, N, .inl (G k))) (hin : vp_in i N) (d : decode cc pc = .ok (.caload, 1)) (kk : V p l e R s m args below meth c A D t ad cells slots n Q G (pc + 1) Lv (.int (G k i.toNatClampNeg) :: st)) : V p l e R s m args below meth c A D t ad cells slots n Q G pc Lv (.int i :: .ref (ad k) :: st) :=
  fun H locs ls hP hS hl => va_cald C.1 C.2.1 (gc_x C).2.1 hP k 1 (gws_ate hk hce) rfl hin d (kk H locs ls hP hS hl)
theorem v_st (C : gC p s m args meth c cc own n ret A D t ad) {k N : Nat} {i x : Int32} (hk : k < 71) (hce : ∀ g, ce t ad k g = .inl (t.1, N, .inl g)) (hin : vp_in i N) (d : decode cc pc = .ok (.iastore, 1)) (kk : V p l e R s m args below meth c A D t ad cells slots n Q (gu G k i.toNatClampNeg x) (pc + 1) Lv st) : V p l e R s m args below meth c A D t ad cells slots n Q G pc Lv (.int x :: .int i :: .ref (ad k) :: st) := by
  intro H locs ls hP hS hl
  refine va_iast C.1 C.2.1 (gc_x C).2.1 hP (gc_D C G) hS k 0 (gws_ate hk (hce _)) rfl hin d (fun H1 locs1 hP1 _ hS1 => ?_)
  rw [gws_set (G := G) (G' := gu G k i.toNatClampNeg x) hk (by rw [hce, gu_eq]) (fun j hj => gu_ne hj)] at hP1
  exact kk H1 locs1 ls hP1 hS1 hl
theorem v_cst (C : gC p s m args meth c cc own n ret A D t ad) {k N : Nat} {i x : Int32} (hk : k < 71) (hce : ∀ g, ce t ad k g = .inl (t.2.1, N, .inl g)) (hin : vp_in i N) (d : decode cc pc = .ok (.castore, 1)) (kk : V p l e R s m args below meth c A D t ad cells slots n Q (gu G k i.toNatClampNeg (vp_nar .char x)) (pc + 1) Lv st) : V p l e R s m args below meth c A D t ad cells slots n Q G pc Lv (.int x :: .int i :: .ref (ad k) :: st) := by
  intro H locs ls hP hS hl
  refine va_cast C.1 C.2.1 (gc_x C).2.1 hP (gc_D C G) hS k 1 (gws_ate hk (hce _)) rfl hin d (fun H1 locs1 hP1 _ hS1 => ?_)
  rw [gws_set (G := G) (G' := gu G k i.toNatClampNeg (vp_nar .char x)) hk (by rw [hce, gu_eq]) (fun j hj => gu_ne hj)] at hP1
  exact kk H1 locs1 ls hP1 hS1 hl
theorem v_ald (C : gC p s m args meth c cc own n ret A D t ad) {i : Int32} (hin : vp_in i 4) (d : decode cc pc = .ok (.aaload, 1)) (kk : V p l e R s m args below meth c A D t ad cells slots n Q G (pc + 1) Lv (.ref (ad (G 64 i.toNatClampNeg).toNatClampNeg) :: st)) : V p l e R s m args below meth c A D t ad cells slots n Q G pc Lv (.int i :: .ref (ad 64) :: st) :=
  fun H locs ls hP hS hl => va_aldq C.1 C.2.1 (gc_x C).2.1 hP 64 2 (gws_ate (e := .inl (t.2.2, 4, .inr (.inr (.inr (.inr (fun i => some (ad (G 64 i).toNatClampNeg))))))) (by decide) rfl) rfl hin d (kk H locs ls hP hS hl)
theorem v_ast (C : gC p s m args meth c cc own n ret A D t ad) {i : Int32} {k : Nat} (hk : isM k) (hin : vp_in i 4) (d : decode cc pc = .ok (.aastore, 1)) (kk : V p l e R s m args below meth c A D t ad cells slots n Q (gu G 64 i.toNatClampNeg (Int32.ofNat k)) (pc + 1) Lv st) : V p l e R s m args below meth c A D t ad cells slots n Q G pc Lv (.ref (ad k) :: .int i :: .ref (ad 64) :: st) := by
  intro H locs ls hP hS hl
  have hk9 : k < 63 := hk.1
  refine va_astq C.1 C.2.1 (gc_x C).2.1 hP (gc_D C G) hS 64 2 k 1 (r := (RX1, TX1, 15)) (gws_ate (e := .inl (t.2.2, 4, .inr (.inr (.inr (.inr (fun i => some (ad (G 64 i).toNatClampNeg))))))) (by decide) rfl) rfl (gws_ate (by omega) (ce_m hk)) rfl hin d (fun H1 locs1 hP1 _ hS1 => ?_)
  rw [gws_set (G := G) (G' := gu G 64 i.toNatClampNeg (Int32.ofNat k)) (by decide) ?_ (fun j hj => gu_ne hj)] at hP1
  · exact kk H1 locs1 ls hP1 hS1 hl
  · have hT : (Int32.ofNat k).toNatClampNeg = k := Int32.toNatClampNeg_ofNat_of_lt (by omega)
    have hF : (fun j => some (ad (gu G 64 i.toNatClampNeg (Int32.ofNat k) 64 j).toNatClampNeg)) = va_up (fun j => some (ad (G 64 j).toNatClampNeg)) i.toNatClampNeg (some (ad k)) := by
      funext j
      by_cases hj : j = i.toNatClampNeg
      · simp [gu, va_up, hj, hT]
      · simp [gu, va_up, hj]
    show (Sum.inl (t.2.2, 4, .inr (.inr (.inr (.inr (fun j => some (ad (gu G 64 i.toNatClampNeg (Int32.ofNat k) 64 j).toNatClampNeg)))))) : va_E) = _
    rw [hF]
theorem v_iret (C : gC p s m args meth c cc own n (some .int) (isW ad) D t ad) {r : Int32} (d : decode cc pc = .ok (.ireturn, 1)) : V p l e R s m args below meth c (isW ad) D t ad 0 0 n (Qi below D t ad args s r G) G pc Lv [.int r] :=
  fun H locs ls hP hS hl => W.iret C.1 C.2.1 (gc_x C).2.2.2.2.2.1 (fun t ht hW => ⟨⟨r, (), rfl, rfl, by show va_P _ _ _ _; rw [ht]; exact hP⟩, hS.F ht⟩) hS.2.2 d (gc_x C).2.2.2.2.2.2
def nb (r : Int32) : Prop := r = 0 ∨ r = 1
theorem nb_n {r : Int32} (h : nb r) : narrow .boolean (.int r) = .int r := by rcases h with rfl | rfl <;> rfl
theorem v_zret (C : gC p s m args meth c cc own n (some .boolean) (isW ad) D t ad) {r : Int32} (hr : nb r) (d : decode cc pc = .ok (.ireturn, 1)) : V p l e R s m args below meth c (isW ad) D t ad 0 0 n (Qi below D t ad args s r G) G pc Lv [.int r] :=
  fun H locs ls hP hS hl => W.zret C.1 C.2.1 (gc_x C).2.2.2.2.2.1 (nb_n hr) (fun t ht hW => ⟨⟨r, (), rfl, rfl, by show va_P _ _ _ _; rw [ht]; exact hP⟩, hS.F ht⟩) hS.2.2 d (gc_x C).2.2.2.2.2.2
theorem v_lret (C : gC p s m args meth c cc own n (some .long) (isW ad) D t ad) {r : Int64} (d : decode cc pc = .ok (.lreturn, 1)) : V p l e R s m args below meth c (isW ad) D t ad 0 0 n (Ql below D t ad args s r G) G pc Lv [.long r] :=
  fun H locs ls hP hS hl => W.lret C.1 C.2.1 (gc_x C).2.2.2.2.2.1 (fun t ht hW => ⟨⟨r, (), rfl, rfl, by show va_P _ _ _ _; rw [ht]; exact hP⟩, hS.F ht⟩) hS.2.2 d (gc_x C).2.2.2.2.2.2
theorem v_vret (C : gC p s m args meth c cc own n none (isW ad) D t ad) (d : decode cc pc = .ok (.return_, 1)) : V p l e R s m args below meth c (isW ad) D t ad 0 0 n (Qv below D t ad args s G) G pc Lv [] :=
  fun H locs ls hP hS hl => W.vret C.1 C.2.1 (gc_x C).2.2.2.2.2.1 (fun t ht hW => ⟨⟨(), rfl, trivial, by show va_P _ _ _ _; rw [ht]; exact hP⟩, hS.F ht⟩) hS.2.2 d (gc_x C).2.2.2.2.2.2
-- calls
variable {y : MethodName} {b : ByteArray} {mL nP index : Nat} {ry : Option FieldType} {rm : Room} {As : List Value} {r : Int32} {G' : gG}
theorem v_pre (C : gC p s m args meth c cc own n ret A D t ad) {H : Heap} {locs : List Loc} (hP : va_P D vwCl (gws t ad G) H) (hS : va_S A s.heap H locs) {av : List Value} : ∀ U : State, U.heap = H → s.WarmedH U.vm → va_Pc av (gP D t ad G) av.toArray U :=
  fun U hU hW => ⟨rfl, by rw [hU]; exact hP, va_K.moved hW.alike (gc_x C).2.1, (gc_x C).2.2.2.1.to hW.alike (fun a ha hna => by rw [hU]; exact hS.2.1 a ha hna) (fun q ⟨k, hk, he⟩ => he ▸ (gc_x C).2.2.1 k hk), (gc_x C).2.2.2.2.1.warm hW⟩
theorem v_AW (C : gC p s m args meth c cc own n ret A D t ad) : ∀ q, isW ad q → A q := fun q ⟨k, hk, he⟩ => he ▸ (gc_x C).2.2.1 k hk
abbrev yOk (y : MethodName) (nP : Nat) : Prop := y.cls ≠ "java/lang/invoke/MethodHandle" ∧ y.cls ≠ "java/lang/invoke/VarHandle" ∧ (parseMethodDescriptor y.desc).map (fun d => d.parameters.length) = some nP
theorem v_callI (C : gC p s m args meth c cc own n ret A D t ad) {k ci : Nat} {fs : List Value} {rest : List Value} {q : vw_C} (hk : k < 71) (hce : ce t ad k (G k) = .inr (ci, fs)) (hc : vwCl[ci]? = some q)
    (hM : Mi l D t ad y b mL ry rm (.ref (ad k) :: As) G r G') (hcode : Cond.code y b mL ry ∈ gtbl) (hlink : Cond.methodLink own index y ∈ gtbl) (hinst : Cond.instanceMethod y ∈ gtbl) (hsel : Cond.selects q.1 y y ∈ gtbl) (hini : Cond.initialized y.cls ∈ gtbl) (hd : yOk y nP) (hR : rm.frames + 1 ≤ R.frames ∧ 8 + (mL + 11) + rm.locals ≤ R.locals ∧ rm.cells = 0 ∧ rm.slots = 0 ∧ cells ≤ R.cells ∧ slots ≤ R.slots)
    (hn : As.length = nP) (hst : st = As.reverse ++ .ref (ad k) :: rest) (hcat : (rest.map fun v => v.category).sum ≤ 8) (d : decode cc pc = .ok (.invokevirtual index, 3))
    (kk : V p l e R s m args below meth c A D t ad cells slots n Q G' (pc + 3) Lv (.int r :: rest)) : V p l e R s m args below meth c A D t ad cells slots n Q G pc Lv st := by
  intro H locs ls hP hS hl
  have hts := (gc_x C).1
  refine va_calli (va_runV (As := As) (rest := rest) ⟨C.1, C.2.1, C.2.2.1, C.2.2.2.1, hts⟩ hM ⟨callB_of nP hts (gd_c hcode) rfl hR.2.2.1 hR.2.2.2.1 (hts _ hini) (hts _ hlink) hd ⟨hR.1, hR.2.1⟩, hts _ hinst, hts _ hsel⟩ ⟨gP_blind, va_recv (gc_x C).2.1 hP hc (gws_ate hk hce), v_pre C hP hS⟩ rfl hn hl.1 hst (lv_room hcat) d ⟨hR.2.2.2.2.1, hR.2.2.2.2.2⟩) hS (fun q _ h => v_AW C q h) (v_AW C) (fun r' u t' H1 locs1 ht hvm hw hB hz1 hk1 hS1 => ?_)
  subst hw
  exact kk H1 locs1 ls (by rw [← ht]; exact hB) hS1 hl
theorem v_callV (C : gC p s m args meth c cc own n ret A D t ad) {k ci : Nat} {fs : List Value} {rest : List Value} {q : vw_C} (hk : k < 71) (hce : ce t ad k (G k) = .inr (ci, fs)) (hc : vwCl[ci]? = some q)
    (hM : Mv l D t ad y b mL rm (.ref (ad k) :: As) G G') (hcode : Cond.code y b mL none ∈ gtbl) (hlink : Cond.methodLink own index y ∈ gtbl) (hinst : Cond.instanceMethod y ∈ gtbl) (hsel : Cond.selects q.1 y y ∈ gtbl) (hini : Cond.initialized y.cls ∈ gtbl) (hd : yOk y nP) (hR : rm.frames + 1 ≤ R.frames ∧ 8 + (mL + 11) + rm.locals ≤ R.locals ∧ rm.cells = 0 ∧ rm.slots = 0 ∧ cells ≤ R.cells ∧ slots ≤ R.slots)
    (hn : As.length = nP) (hst : st = As.reverse ++ .ref (ad k) :: rest) (hcat : (rest.map fun v => v.category).sum ≤ 8) (d : decode cc pc = .ok (.invokevirtual index, 3))
    (kk : V p l e R s m args below meth c A D t ad cells slots n Q G' (pc + 3) Lv rest) : V p l e R s m args below meth c A D t ad cells slots n Q G pc Lv st := by
  intro H locs ls hP hS hl
  have hts := (gc_x C).1
  refine va_callv (va_runV (As := As) (rest := rest) ⟨C.1, C.2.1, C.2.2.1, C.2.2.2.1, hts⟩ hM ⟨callB_of nP hts (gd_c hcode) rfl hR.2.2.1 hR.2.2.2.1 (hts _ hini) (hts _ hlink) hd ⟨hR.1, hR.2.1⟩, hts _ hinst, hts _ hsel⟩ ⟨gP_blind, va_recv (gc_x C).2.1 hP hc (gws_ate hk hce), v_pre C hP hS⟩ rfl hn hl.1 hst (lv_room hcat) d ⟨hR.2.2.2.2.1, hR.2.2.2.2.2⟩) hS (fun q _ h => v_AW C q h) (v_AW C) (fun u t' H1 locs1 ht hvm hw hB hz1 hk1 hS1 => ?_)
  exact kk H1 locs1 ls (by rw [← ht]; exact hB) hS1 hl
theorem v_callS (C : gC p s m args meth c cc own n ret A D t ad) {rest : List Value}
    (hM : Mi l D t ad y b mL ry rm As G r G') (hcode : Cond.code y b mL ry ∈ gtbl) (hlink : Cond.methodLink own index y ∈ gtbl) (hsta : Cond.static y ∈ gtbl) (hini : Cond.initialized y.cls ∈ gtbl) (hd : yOk y nP) (hR : rm.frames + 1 ≤ R.frames ∧ 8 + (mL + 11) + rm.locals ≤ R.locals ∧ rm.cells = 0 ∧ rm.slots = 0 ∧ cells ≤ R.cells ∧ slots ≤ R.slots)
    (hn : As.length = nP) (hst : st = As.reverse ++ rest) (hcat : (rest.map fun v => v.category).sum ≤ 8) (d : decode cc pc = .ok (.invokestatic index, 3))
    (kk : V p l e R s m args below meth c A D t ad cells slots n Q G' (pc + 3) Lv (.int r :: rest)) : V p l e R s m args below meth c A D t ad cells slots n Q G pc Lv st := by
  intro H locs ls hP hS hl
  have hts := (gc_x C).1
  refine va_calli (va_runS (As := As) (rest := rest) ⟨C.1, C.2.1, C.2.2.1, C.2.2.2.1, hts⟩ hM ⟨callB_of nP hts (gd_c hcode) rfl hR.2.2.1 hR.2.2.2.1 (hts _ hini) (hts _ hlink) hd ⟨hR.1, hR.2.1⟩, hts _ hsta⟩ ⟨gP_blind, v_pre C hP hS⟩ rfl hn hl.1 hst (lv_room hcat) d ⟨hR.2.2.2.2.1, hR.2.2.2.2.2⟩) hS (fun q _ h => v_AW C q h) (v_AW C) (fun r' u t' H1 locs1 ht hvm hw hB hz1 hk1 hS1 => ?_)
  subst hw
  exact kk H1 locs1 ls (by rw [← ht]; exact hB) hS1 hl
theorem v_callSv (C : gC p s m args meth c cc own n ret A D t ad) {rest : List Value}
    (hM : Mv l D t ad y b mL rm As G G') (hcode : Cond.code y b mL none ∈ gtbl) (hlink : Cond.methodLink own index y ∈ gtbl) (hsta : Cond.static y ∈ gtbl) (hini : Cond.initialized y.cls ∈ gtbl) (hd : yOk y nP) (hR : rm.frames + 1 ≤ R.frames ∧ 8 + (mL + 11) + rm.locals ≤ R.locals ∧ rm.cells = 0 ∧ rm.slots = 0 ∧ cells ≤ R.cells ∧ slots ≤ R.slots)
    (hn : As.length = nP) (hst : st = As.reverse ++ rest) (hcat : (rest.map fun v => v.category).sum ≤ 8) (d : decode cc pc = .ok (.invokestatic index, 3))
    (kk : V p l e R s m args below meth c A D t ad cells slots n Q G' (pc + 3) Lv rest) : V p l e R s m args below meth c A D t ad cells slots n Q G pc Lv st := by
  intro H locs ls hP hS hl
  have hts := (gc_x C).1
  refine va_callv (va_runS (As := As) (rest := rest) ⟨C.1, C.2.1, C.2.2.1, C.2.2.2.1, hts⟩ hM ⟨callB_of nP hts (gd_c hcode) rfl hR.2.2.1 hR.2.2.2.1 (hts _ hini) (hts _ hlink) hd ⟨hR.1, hR.2.1⟩, hts _ hsta⟩ ⟨gP_blind, v_pre C hP hS⟩ rfl hn hl.1 hst (lv_room hcat) d ⟨hR.2.2.2.2.1, hR.2.2.2.2.2⟩) hS (fun q _ h => v_AW C q h) (v_AW C) (fun u t' H1 locs1 ht hvm hw hB hz1 hk1 hS1 => ?_)
  exact kk H1 locs1 ls (by rw [← ht]; exact hB) hS1 hl
theorem v_callSl (C : gC p s m args meth c cc own n ret A D t ad) {rest : List Value} {r : Int64}
    (hM : Ml l D t ad y b mL rm As G r) (hcode : Cond.code y b mL (some .long) ∈ gtbl) (hlink : Cond.methodLink own index y ∈ gtbl) (hsta : Cond.static y ∈ gtbl) (hini : Cond.initialized y.cls ∈ gtbl) (hd : yOk y nP) (hR : rm.frames + 1 ≤ R.frames ∧ 8 + (mL + 11) + rm.locals ≤ R.locals ∧ rm.cells = 0 ∧ rm.slots = 0 ∧ cells ≤ R.cells ∧ slots ≤ R.slots)
    (hn : As.length = nP) (hst : st = As.reverse ++ rest) (hcat : (rest.map fun v => v.category).sum ≤ 8) (d : decode cc pc = .ok (.invokestatic index, 3))
    (kk : V p l e R s m args below meth c A D t ad cells slots n Q G (pc + 3) Lv (.long r :: rest)) : V p l e R s m args below meth c A D t ad cells slots n Q G pc Lv st := by
  intro H locs ls hP hS hl
  have hts := (gc_x C).1
  refine va_calll (va_runS (As := As) (rest := rest) ⟨C.1, C.2.1, C.2.2.1, C.2.2.2.1, hts⟩ hM ⟨callB_of nP hts (gd_c hcode) rfl hR.2.2.1 hR.2.2.2.1 (hts _ hini) (hts _ hlink) hd ⟨hR.1, hR.2.1⟩, hts _ hsta⟩ ⟨gP_blind, v_pre C hP hS⟩ rfl hn hl.1 hst (lv_room hcat) d ⟨hR.2.2.2.2.1, hR.2.2.2.2.2⟩) hS (fun q _ h => v_AW C q h) (v_AW C) (fun r' u t' H1 locs1 ht hvm hw hB hz1 hk1 hS1 => ?_)
  subst hw
  exact kk H1 locs1 ls (by rw [← ht]; exact hB) hS1 hl
theorem v_callN (C : gC p s m args meth c cc own n ret A D t ad) {host : String} {rest : List Value}
    (hM : Mi l D t ad y b mL ry rm As G r G') (hcode : Cond.code y b mL ry ∈ gtbl) (hlink : va_Nw (.methodLinkNest own index y host) s) (hsta : Cond.static y ∈ gtbl) (hini : Cond.initialized y.cls ∈ gtbl) (hd : yOk y nP) (hR : rm.frames + 1 ≤ R.frames ∧ 8 + (mL + 11) + rm.locals ≤ R.locals ∧ rm.cells = 0 ∧ rm.slots = 0 ∧ cells ≤ R.cells ∧ slots ≤ R.slots)
    (hn : As.length = nP) (hst : st = As.reverse ++ rest) (hcat : (rest.map fun v => v.category).sum ≤ 8) (d : decode cc pc = .ok (.invokestatic index, 3))
    (kk : V p l e R s m args below meth c A D t ad cells slots n Q G' (pc + 3) Lv (.int r :: rest)) : V p l e R s m args below meth c A D t ad cells slots n Q G pc Lv st := by
  intro H locs ls hP hS hl
  have hts := (gc_x C).1
  refine va_calli (va_runSN (As := As) (rest := rest) ⟨C.1, C.2.1, C.2.2.1, C.2.2.2.1, hts⟩ hM ⟨va_cnB nP hts (gd_c hcode) rfl hR.2.2.1 hR.2.2.2.1 hlink (hts _ hini) hd ⟨hR.1, hR.2.1⟩, hts _ hsta, trivial⟩ ⟨gP_blind, v_pre C hP hS⟩ rfl hn hl.1 hst (lv_room hcat) d ⟨hR.2.2.2.2.1, hR.2.2.2.2.2⟩) hS (fun q _ h => v_AW C q h) (v_AW C) (fun r' u t' H1 locs1 ht hvm hw hB hz1 hk1 hS1 => ?_)
  subst hw
  exact kk H1 locs1 ls (by rw [← ht]; exact hB) hS1 hl
theorem v_min (C : gC p s m args meth c cc own n ret A D t ad) {x z : Int32} (hlink : Cond.methodLink own index Lib.Math.min.name ∈ gtbl) (hsta : Cond.static Lib.Math.min.name ∈ gtbl) (hini : Cond.initialized "java/lang/Math" ∈ gtbl) (hcode : Cond.code Lib.Math.min.name Lib.Math.min.code 2 (some .int) ∈ gtbl) (hR : 1 ≤ R.frames ∧ 21 ≤ R.locals ∧ cells ≤ R.cells ∧ slots ≤ R.slots) (hcat : (st.map fun v => v.category).sum ≤ 8) (d : decode cc pc = .ok (.invokestatic index, 3))
    (kk : V p l e R s m args below meth c A D t ad cells slots n Q G (pc + 3) Lv (.int (if z < x then z else x) :: st)) : V p l e R s m args below meth c A D t ad cells slots n Q G pc Lv (.int z :: .int x :: st) :=
  fun H locs ls hP hS hl => va_mmin C.1 C.2.1 (C.2.2.1.trans hl.1.symm) C.2.2.2.1 ((gc_x C).1 _ hlink) ((gc_x C).1 _ hsta) ((gc_x C).1 _ hini) ((gc_x C).1 _ hcode) hR.1 (by have := hR.2.1; omega) hR.2.2.1 hR.2.2.2 d (kk H locs ls hP hS hl)
theorem v_max (C : gC p s m args meth c cc own n ret A D t ad) {x z : Int32} (hlink : Cond.methodLink own index Lib.Math.max.name ∈ gtbl) (hsta : Cond.static Lib.Math.max.name ∈ gtbl) (hini : Cond.initialized "java/lang/Math" ∈ gtbl) (hcode : Cond.code Lib.Math.max.name Lib.Math.max.code 2 (some .int) ∈ gtbl) (hR : 1 ≤ R.frames ∧ 21 ≤ R.locals ∧ cells ≤ R.cells ∧ slots ≤ R.slots) (hcat : (st.map fun v => v.category).sum ≤ 8) (d : decode cc pc = .ok (.invokestatic index, 3))
    (kk : V p l e R s m args below meth c A D t ad cells slots n Q G (pc + 3) Lv (.int (if x < z then z else x) :: st)) : V p l e R s m args below meth c A D t ad cells slots n Q G pc Lv (.int z :: .int x :: st) :=
  fun H locs ls hP hS hl => va_mmax C.1 C.2.1 (C.2.2.1.trans hl.1.symm) C.2.2.2.1 ((gc_x C).1 _ hlink) ((gc_x C).1 _ hsta) ((gc_x C).1 _ hini) ((gc_x C).1 _ hcode) hR.1 (by have := hR.2.1; omega) hR.2.2.1 hR.2.2.2 d (kk H locs ls hP hS hl)
theorem v_abs (C : gC p s m args meth c cc own n ret A D t ad) {x : Int32} (hlink : Cond.methodLink own index Lib.Math.abs.name ∈ gtbl) (hsta : Cond.static Lib.Math.abs.name ∈ gtbl) (hini : Cond.initialized "java/lang/Math" ∈ gtbl) (hcode : Cond.code Lib.Math.abs.name Lib.Math.abs.code 1 (some .int) ∈ gtbl) (hR : 1 ≤ R.frames ∧ 21 ≤ R.locals ∧ cells ≤ R.cells ∧ slots ≤ R.slots) (hcat : (st.map fun v => v.category).sum ≤ 8) (d : decode cc pc = .ok (.invokestatic index, 3))
    (kk : V p l e R s m args below meth c A D t ad cells slots n Q G (pc + 3) Lv (.int (if 0 ≤ x then x else 0 - x) :: st)) : V p l e R s m args below meth c A D t ad cells slots n Q G pc Lv (.int x :: st) :=
  fun H locs ls hP hS hl => va_mabs C.1 C.2.1 (C.2.2.1.trans hl.1.symm) C.2.2.2.1 ((gc_x C).1 _ hlink) ((gc_x C).1 _ hsta) ((gc_x C).1 _ hini) ((gc_x C).1 _ hcode) hR.1 (by have := hR.2.1; omega) hR.2.2.1 hR.2.2.2 d (kk H locs ls hP hS hl)
theorem v_ldc (C : gC p s m args meth c cc own n ret A D t ad) {v : Int32} (hlink : Cond.constant own index v ∈ gtbl) (d : decode cc pc = .ok (.ldc index, 2)) (kk : V p l e R s m args below meth c A D t ad cells slots n Q G (pc + 2) Lv (.int v :: st)) : V p l e R s m args below meth c A D t ad cells slots n Q G pc Lv st :=
  fun H locs ls hP hS hl => lv_ldc C.1 C.2.1 C.2.2.2.1 ((gc_x C).1 _ hlink) d (kk H locs ls hP hS hl)
theorem v_ldcw (C : gC p s m args meth c cc own n ret A D t ad) {v : Int32} (hlink : Cond.constant own index v ∈ gtbl) (d : decode cc pc = .ok (.ldc_w index, 3)) (kk : V p l e R s m args below meth c A D t ad cells slots n Q G (pc + 3) Lv (.int v :: st)) : V p l e R s m args below meth c A D t ad cells slots n Q G pc Lv st :=
  fun H locs ls hP hS hl => lv_ldcw C.1 C.2.1 C.2.2.2.1 ((gc_x C).1 _ hlink) d (kk H locs ls hP hS hl)
theorem v_iushr (C : gC p s m args meth c cc own n ret A D t ad) {x z : Int32} (d : decode cc pc = .ok (.iushr, 1)) (kk : V p l e R s m args below meth c A D t ad cells slots n Q G (pc + 1) Lv (.int (x.toUInt32 >>> (z.toUInt32 &&& Int32.toUInt32 31)).toInt32 :: st)) : V p l e R s m args below meth c A D t ad cells slots n Q G pc Lv (.int z :: .int x :: st) :=
  fun H locs ls hP hS hl => lv_iushr C.1 C.2.1 d rfl (kk H locs ls hP hS hl)
/-- the static tables of BlinkMesh -/
theorem v_gLst (C : gC p s m args meth c cc own n ret A D t ad) (hlink : Cond.fieldLink own index "BlinkMesh" "LEAST_SETTING" "[I" ∈ gtbl) (d : decode cc pc = .ok (.getstatic index, 3)) (kk : V p l e R s m args below meth c A D t ad cells slots n Q G (pc + 3) Lv (.ref (ad 80) :: st)) : V p l e R s m args below meth c A D t ad cells slots n Q G pc Lv st :=
  fun H locs ls hP hS hl => va_gets C.1 C.2.1 (gc_x C).2.2.2.1.1 hS C.2.2.2.1 ((gc_x C).1 _ hlink) (fun _ h => h) d (kk H locs ls hP hS hl)
theorem v_gGrt (C : gC p s m args meth c cc own n ret A D t ad) (hlink : Cond.fieldLink own index "BlinkMesh" "GREATEST_SETTING" "[I" ∈ gtbl) (d : decode cc pc = .ok (.getstatic index, 3)) (kk : V p l e R s m args below meth c A D t ad cells slots n Q G (pc + 3) Lv (.ref (ad 81) :: st)) : V p l e R s m args below meth c A D t ad cells slots n Q G pc Lv st :=
  fun H locs ls hP hS hl => va_gets C.1 C.2.1 (gc_x C).2.2.2.1.2.2.1 hS C.2.2.2.1 ((gc_x C).1 _ hlink) (fun _ h => h) d (kk H locs ls hP hS hl)
theorem v_ldLst (C : gC p s m args meth c cc own n ret A D t ad) {i : Int32} (hin : vp_in i 3) (d : decode cc pc = .ok (.iaload, 1)) (kk : V p l e R s m args below meth c A D t ad cells slots n Q G (pc + 1) Lv (.int (lstT i.toNatClampNeg) :: st)) : V p l e R s m args below meth c A D t ad cells slots n Q G pc Lv (.int i :: .ref (ad 80) :: st) :=
  fun H locs ls hP hS hl => va_ti C.1 C.2.1 (gc_x C).2.2.2.1.2.1 hS hin rfl d (kk H locs ls hP hS hl)
theorem v_ldGrt (C : gC p s m args meth c cc own n ret A D t ad) {i : Int32} (hin : vp_in i 3) (d : decode cc pc = .ok (.iaload, 1)) (kk : V p l e R s m args below meth c A D t ad cells slots n Q G (pc + 1) Lv (.int (grtT i.toNatClampNeg) :: st)) : V p l e R s m args below meth c A D t ad cells slots n Q G pc Lv (.int i :: .ref (ad 81) :: st) :=
  fun H locs ls hP hS hl => va_ti C.1 C.2.1 (gc_x C).2.2.2.1.2.2.2 hS hin rfl d (kk H locs ls hP hS hl)
/-- System.arraycopy of ints from 0, n at a time: between arrays of the world -/
def gcp (G : gG) (k0 k1 N : Nat) : gG := fun a b => if a = k1 then (if b < N then G k0 b else G a b) else G a b
theorem gcp_ne {G : gG} {k0 k1 N a : Nat} (h : a ≠ k1) : gcp G k0 k1 N a = G a := by funext b; simp [gcp, h]
theorem v_copy (C : gC p s m args meth c cc own n ret A D t ad) {k0 k1 N M : Nat} {z : Int32} (hk0 : k0 < 71) (hk1 : k1 < 71) (hc0 : ∀ g, ce t ad k0 g = .inl (t.1, N, .inl g)) (hc1 : ∀ g, ce t ad k1 g = .inl (t.1, N, .inl g)) (hz : z.toNatClampNeg = M ∧ ¬ z < 0) (hM : M ≤ N) (hlink : Cond.methodLink own index arraycopyName ∈ gtbl) (hnat : Cond.native arraycopyName ∈ gtbl) (hsta : Cond.static arraycopyName ∈ gtbl) (hini : Cond.initialized "java/lang/System" ∈ gtbl) (hR : 1 ≤ R.frames ∧ 8 + (nativeFrameWords "java/lang/System" "arraycopy" 5 + 11) ≤ R.locals) (hcat : (st.map fun v => v.category).sum ≤ 8) (d : decode cc pc = .ok (.invokestatic index, 3))
    (kk : V p l e R s m args below meth c A D t ad cells slots n Q (gcp G k0 k1 M) (pc + 3) Lv st) : V p l e R s m args below meth c A D t ad cells slots n Q G pc Lv (.int z :: .int 0 :: .ref (ad k1) :: .int 0 :: .ref (ad k0) :: st) := by
  intro H locs ls hP hS hl
  refine va_copyi C.1 C.2.1 (C.2.2.1.trans hl.1.symm) C.2.2.2.1 ((gc_x C).1 _ hlink) ((gc_x C).1 _ hnat) ((gc_x C).1 _ hsta) ((gc_x C).1 _ hini) (gc_x C).2.1 hP (gc_D C G) hS k0 k1 0 0 (gws_ate hk0 (hc0 _)) (gws_ate hk1 (hc1 _)) rfl rfl rfl (by decide) (by decide) hz.2 (by rw [hz.1]; simpa using hM) (by rw [hz.1]; simpa using hM) (fun _ _ => rfl) hR.1 (by have := hR.2; omega) d (fun H1 locs1 hP1 _ hS1 => ?_)
  rw [gws_set (G := G) (G' := gcp G k0 k1 M) hk1 ?_ (fun j hj => gcp_ne hj)] at hP1
  · exact kk H1 locs1 ls hP1 hS1 hl
  · rw [hc1, hz.1]
    congr 3
    congr 1
    funext j
    simp [gcp, va_cpy]
end V2
end
section
theorem k0 : (Jvm.Cond.initialized "BlinkMeshLaw") ∈ gtbl := gw 0 (by decide +kernel) rfl
theorem k1 : (Jvm.Cond.initialized "BlinkMesh") ∈ gtbl := gw 1 (by decide +kernel) rfl
theorem k2 : (Jvm.Cond.initialized "BlinkMesh$Mesh") ∈ gtbl := gw 2 (by decide +kernel) rfl
theorem k3 : (Jvm.Cond.initialized "BlinkMesh$History") ∈ gtbl := gw 3 (by decide +kernel) rfl
theorem k4 : (Jvm.Cond.initialized "BlinkMesh$MeshText") ∈ gtbl := gw 4 (by decide +kernel) rfl
theorem k5 : (Jvm.Cond.initialized "java/lang/Math") ∈ gtbl := gw 5 (by decide +kernel) rfl
theorem k6 : (Jvm.Cond.initialized "java/lang/Integer") ∈ gtbl := gw 6 (by decide +kernel) rfl
theorem k7 : (Jvm.Cond.initialized "java/lang/System") ∈ gtbl := gw 7 (by decide +kernel) rfl
theorem k8 : (Jvm.Cond.classLink "BlinkMeshLaw" (11 : Nat) "BlinkMesh") ∈ gtbl := gw 8 (by decide +kernel) rfl
theorem k9 : (Jvm.Cond.instantiable "BlinkMesh" (6 : Nat)) ∈ gtbl := gw 9 (by decide +kernel) rfl
theorem k10 : (Jvm.Cond.methodLink "BlinkMeshLaw" (112 : Nat) ({ cls := "BlinkMesh", name := "<init>", desc := "()V" } : Jvm.MethodName)) ∈ gtbl := gw 10 (by decide +kernel) rfl
theorem k11 : (Jvm.Cond.instanceMethod ({ cls := "BlinkMesh", name := "<init>", desc := "()V" } : Jvm.MethodName)) ∈ gtbl := gw 11 (by decide +kernel) rfl
theorem k12 : (Jvm.Cond.code ({ cls := "BlinkMesh", name := "<init>", desc := "()V" } : Jvm.MethodName) prog_1_method_1_code (1 : Nat) (Option.none : Option Jvm.ClassFile.FieldType)) ∈ gtbl := gw 12 (by decide +kernel) rfl
theorem k13 : (Jvm.Cond.methodLink "BlinkMesh" (1 : Nat) ({ cls := "java/lang/Object", name := "<init>", desc := "()V" } : Jvm.MethodName)) ∈ gtbl := gw 13 (by decide +kernel) rfl
theorem k14 : (Jvm.Cond.instanceMethod ({ cls := "java/lang/Object", name := "<init>", desc := "()V" } : Jvm.MethodName)) ∈ gtbl := gw 14 (by decide +kernel) rfl
theorem k15 : (Jvm.Cond.code ({ cls := "java/lang/Object", name := "<init>", desc := "()V" } : Jvm.MethodName) object_method_1_code (1 : Nat) (Option.none : Option Jvm.ClassFile.FieldType)) ∈ gtbl := gw 15 (by decide +kernel) rfl
theorem k16 : (Jvm.Cond.classLink "BlinkMesh" (7 : Nat) "BlinkMesh$Mesh") ∈ gtbl := gw 16 (by decide +kernel) rfl
theorem k17 : (Jvm.Cond.instantiable "BlinkMesh$Mesh" (15 : Nat)) ∈ gtbl := gw 17 (by decide +kernel) rfl
theorem k19 : (Jvm.Cond.instanceMethod ({ cls := "BlinkMesh$Mesh", name := "<init>", desc := "()V" } : Jvm.MethodName)) ∈ gtbl := gw 19 (by decide +kernel) rfl
theorem k20 : (Jvm.Cond.code ({ cls := "BlinkMesh$Mesh", name := "<init>", desc := "()V" } : Jvm.MethodName) prog_3_method_1_code (1 : Nat) (Option.none : Option Jvm.ClassFile.FieldType)) ∈ gtbl := gw 20 (by decide +kernel) rfl
theorem k21 : (Jvm.Cond.methodLink "BlinkMesh$Mesh" (3 : Nat) ({ cls := "java/lang/Object", name := "<init>", desc := "()V" } : Jvm.MethodName)) ∈ gtbl := gw 21 (by decide +kernel) rfl
theorem k24 : (Jvm.Cond.methodLink "BlinkMesh$Mesh" (36 : Nat) ({ cls := "[I", name := "clone", desc := "()Ljava/lang/Object;" } : Jvm.MethodName)) ∈ gtbl := gw 24 (by decide +kernel) rfl
theorem k26 : (Jvm.Cond.native ({ cls := "java/lang/Object", name := "clone", desc := "()Ljava/lang/Object;" } : Jvm.MethodName)) ∈ gtbl := gw 26 (by decide +kernel) rfl
theorem k27 : (Jvm.Cond.instanceMethod ({ cls := "java/lang/Object", name := "clone", desc := "()Ljava/lang/Object;" } : Jvm.MethodName)) ∈ gtbl := gw 27 (by decide +kernel) rfl
theorem k28 : (Jvm.Cond.selects "[I" ({ cls := "[I", name := "clone", desc := "()Ljava/lang/Object;" } : Jvm.MethodName) ({ cls := "java/lang/Object", name := "clone", desc := "()Ljava/lang/Object;" } : Jvm.MethodName)) ∈ gtbl := gw 28 (by decide +kernel) rfl
theorem k30 : (Jvm.Cond.classLink "BlinkMesh$Mesh" (37 : Nat) "[I") ∈ gtbl := gw 30 (by decide +kernel) rfl
theorem k31 : (Jvm.Cond.fieldLink "BlinkMesh$Mesh" (9 : Nat) "BlinkMesh$Mesh" "phase" "[I") ∈ gtbl := gw 31 (by decide +kernel) rfl
theorem k32 : (Jvm.Cond.fieldLink "BlinkMesh$Mesh" (15 : Nat) "BlinkMesh$Mesh" "rate" "[I") ∈ gtbl := gw 32 (by decide +kernel) rfl
theorem k33 : (Jvm.Cond.fieldLink "BlinkMesh$Mesh" (18 : Nat) "BlinkMesh$Mesh" "deaf" "[I") ∈ gtbl := gw 33 (by decide +kernel) rfl
theorem k34 : (Jvm.Cond.fieldLink "BlinkMesh$Mesh" (21 : Nat) "BlinkMesh$Mesh" "linked" "[I") ∈ gtbl := gw 34 (by decide +kernel) rfl
theorem k35 : (Jvm.Cond.fieldLink "BlinkMesh$Mesh" (24 : Nat) "BlinkMesh$Mesh" "blinks" "[I") ∈ gtbl := gw 35 (by decide +kernel) rfl
theorem k36 : (Jvm.Cond.fieldLink "BlinkMesh$Mesh" (27 : Nat) "BlinkMesh$Mesh" "latest" "[I") ∈ gtbl := gw 36 (by decide +kernel) rfl
theorem k37 : (Jvm.Cond.fieldLink "BlinkMesh$Mesh" (30 : Nat) "BlinkMesh$Mesh" "pushes" "[I") ∈ gtbl := gw 37 (by decide +kernel) rfl
theorem k38 : (Jvm.Cond.fieldLink "BlinkMesh$Mesh" (41 : Nat) "BlinkMesh$Mesh" "settings" "[I") ∈ gtbl := gw 38 (by decide +kernel) rfl
theorem k39 : (Jvm.Cond.fieldLink "BlinkMesh$Mesh" (50 : Nat) "BlinkMesh$Mesh" "there" "I") ∈ gtbl := gw 39 (by decide +kernel) rfl
theorem k40 : (Jvm.Cond.fieldLink "BlinkMesh$Mesh" (54 : Nat) "BlinkMesh$Mesh" "on" "I") ∈ gtbl := gw 40 (by decide +kernel) rfl
theorem k41 : (Jvm.Cond.fieldLink "BlinkMesh$Mesh" (57 : Nat) "BlinkMesh$Mesh" "tick" "I") ∈ gtbl := gw 41 (by decide +kernel) rfl
theorem k42 : (Jvm.Cond.fieldLink "BlinkMesh$Mesh" (60 : Nat) "BlinkMesh$Mesh" "blinkCount" "I") ∈ gtbl := gw 42 (by decide +kernel) rfl
theorem k43 : (Jvm.Cond.fieldLink "BlinkMesh$Mesh" (63 : Nat) "BlinkMesh$Mesh" "pushCount" "I") ∈ gtbl := gw 43 (by decide +kernel) rfl
theorem k44 : (Jvm.Cond.fieldLink "BlinkMesh$Mesh" (66 : Nat) "BlinkMesh$Mesh" "sharedTicks" "I") ∈ gtbl := gw 44 (by decide +kernel) rfl
theorem k45 : (Jvm.Cond.fieldLink "BlinkMesh$Mesh" (69 : Nat) "BlinkMesh$Mesh" "mostTogether" "I") ∈ gtbl := gw 45 (by decide +kernel) rfl
theorem k77 : (Jvm.Cond.arrayClass Jvm.ClassFile.FieldType.int) ∈ gtbl := gw 77 (by decide +kernel) rfl
theorem k78 : (Jvm.Cond.classLink "BlinkMesh" (26 : Nat) "BlinkMesh$History") ∈ gtbl := gw 78 (by decide +kernel) rfl
theorem k79 : (Jvm.Cond.instantiable "BlinkMesh$History" (2 : Nat)) ∈ gtbl := gw 79 (by decide +kernel) rfl
theorem k80 : (Jvm.Cond.methodLink "BlinkMesh" (28 : Nat) ({ cls := "BlinkMesh$History", name := "<init>", desc := "()V" } : Jvm.MethodName)) ∈ gtbl := gw 80 (by decide +kernel) rfl
theorem k81 : (Jvm.Cond.instanceMethod ({ cls := "BlinkMesh$History", name := "<init>", desc := "()V" } : Jvm.MethodName)) ∈ gtbl := gw 81 (by decide +kernel) rfl
theorem k82 : (Jvm.Cond.code ({ cls := "BlinkMesh$History", name := "<init>", desc := "()V" } : Jvm.MethodName) prog_2_method_1_code (2 : Nat) (Option.none : Option Jvm.ClassFile.FieldType)) ∈ gtbl := gw 82 (by decide +kernel) rfl
theorem k83 : (Jvm.Cond.methodLink "BlinkMesh$History" (3 : Nat) ({ cls := "java/lang/Object", name := "<init>", desc := "()V" } : Jvm.MethodName)) ∈ gtbl := gw 83 (by decide +kernel) rfl
theorem k84 : (Jvm.Cond.classLink "BlinkMesh$History" (9 : Nat) "BlinkMesh$Mesh") ∈ gtbl := gw 84 (by decide +kernel) rfl
theorem k87 : (Jvm.Cond.fieldLink "BlinkMesh$History" (11 : Nat) "BlinkMesh$History" "states" "[LBlinkMesh$Mesh;") ∈ gtbl := gw 87 (by decide +kernel) rfl
theorem k88 : (Jvm.Cond.fieldLink "BlinkMesh$History" (18 : Nat) "BlinkMesh$History" "kept" "I") ∈ gtbl := gw 88 (by decide +kernel) rfl
theorem k94 : (Jvm.Cond.classLink "BlinkMesh" (33 : Nat) "BlinkMesh$MeshText") ∈ gtbl := gw 94 (by decide +kernel) rfl
theorem k95 : (Jvm.Cond.instantiable "BlinkMesh$MeshText" (7 : Nat)) ∈ gtbl := gw 95 (by decide +kernel) rfl
theorem k97 : (Jvm.Cond.instanceMethod ({ cls := "BlinkMesh$MeshText", name := "<init>", desc := "()V" } : Jvm.MethodName)) ∈ gtbl := gw 97 (by decide +kernel) rfl
theorem k98 : (Jvm.Cond.code ({ cls := "BlinkMesh$MeshText", name := "<init>", desc := "()V" } : Jvm.MethodName) prog_4_method_1_code (1 : Nat) (Option.none : Option Jvm.ClassFile.FieldType)) ∈ gtbl := gw 98 (by decide +kernel) rfl
theorem k99 : (Jvm.Cond.methodLink "BlinkMesh$MeshText" (3 : Nat) ({ cls := "java/lang/Object", name := "<init>", desc := "()V" } : Jvm.MethodName)) ∈ gtbl := gw 99 (by decide +kernel) rfl
theorem k100 : (Jvm.Cond.fieldLink "BlinkMesh$MeshText" (9 : Nat) "BlinkMesh$MeshText" "characters" "[C") ∈ gtbl := gw 100 (by decide +kernel) rfl
theorem k101 : (Jvm.Cond.fieldLink "BlinkMesh$MeshText" (25 : Nat) "BlinkMesh$MeshText" "length" "I") ∈ gtbl := gw 101 (by decide +kernel) rfl
theorem k102 : (Jvm.Cond.fieldLink "BlinkMesh$MeshText" (15 : Nat) "BlinkMesh$MeshText" "phase" "[I") ∈ gtbl := gw 102 (by decide +kernel) rfl
theorem k103 : (Jvm.Cond.fieldLink "BlinkMesh$MeshText" (19 : Nat) "BlinkMesh$MeshText" "rate" "[I") ∈ gtbl := gw 103 (by decide +kernel) rfl
theorem k104 : (Jvm.Cond.fieldLink "BlinkMesh$MeshText" (22 : Nat) "BlinkMesh$MeshText" "linked" "[I") ∈ gtbl := gw 104 (by decide +kernel) rfl
theorem k120 : (Jvm.Cond.arrayClass Jvm.ClassFile.FieldType.char) ∈ gtbl := gw 120 (by decide +kernel) rfl
theorem k121 : (Jvm.Cond.fieldLink "BlinkMesh" (10 : Nat) "BlinkMesh" "mesh" "LBlinkMesh$Mesh;") ∈ gtbl := gw 121 (by decide +kernel) rfl
theorem k122 : (Jvm.Cond.fieldLink "BlinkMesh" (16 : Nat) "BlinkMesh" "trial" "LBlinkMesh$Mesh;") ∈ gtbl := gw 122 (by decide +kernel) rfl
theorem k123 : (Jvm.Cond.fieldLink "BlinkMesh" (19 : Nat) "BlinkMesh" "snapshot" "LBlinkMesh$Mesh;") ∈ gtbl := gw 123 (by decide +kernel) rfl
theorem k124 : (Jvm.Cond.fieldLink "BlinkMesh" (22 : Nat) "BlinkMesh" "hasSnapshot" "Z") ∈ gtbl := gw 124 (by decide +kernel) rfl
theorem k125 : (Jvm.Cond.fieldLink "BlinkMesh" (29 : Nat) "BlinkMesh" "history" "LBlinkMesh$History;") ∈ gtbl := gw 125 (by decide +kernel) rfl
theorem k126 : (Jvm.Cond.fieldLink "BlinkMesh" (36 : Nat) "BlinkMesh" "text" "LBlinkMesh$MeshText;") ∈ gtbl := gw 126 (by decide +kernel) rfl
theorem k140 : (Jvm.Cond.methodLink "BlinkMeshLaw" (116 : Nat) ({ cls := "BlinkMesh", name := "hub", desc := "()I" } : Jvm.MethodName)) ∈ gtbl := gw 140 (by decide +kernel) rfl
theorem k141 : (Jvm.Cond.instanceMethod ({ cls := "BlinkMesh", name := "hub", desc := "()I" } : Jvm.MethodName)) ∈ gtbl := gw 141 (by decide +kernel) rfl
theorem k142 : (Jvm.Cond.selects "BlinkMesh" ({ cls := "BlinkMesh", name := "hub", desc := "()I" } : Jvm.MethodName) ({ cls := "BlinkMesh", name := "hub", desc := "()I" } : Jvm.MethodName)) ∈ gtbl := gw 142 (by decide +kernel) rfl
theorem k143 : (Jvm.Cond.code ({ cls := "BlinkMesh", name := "hub", desc := "()I" } : Jvm.MethodName) prog_1_method_22_code (2 : Nat) (Option.some Jvm.ClassFile.FieldType.int)) ∈ gtbl := gw 143 (by decide +kernel) rfl
theorem k144 : (Jvm.Cond.methodLink "BlinkMesh" (175 : Nat) ({ cls := "BlinkMesh$Mesh", name := "lampWithMostLinks", desc := "()I" } : Jvm.MethodName)) ∈ gtbl := gw 144 (by decide +kernel) rfl
theorem k145 : (Jvm.Cond.instanceMethod ({ cls := "BlinkMesh$Mesh", name := "lampWithMostLinks", desc := "()I" } : Jvm.MethodName)) ∈ gtbl := gw 145 (by decide +kernel) rfl
theorem k146 : (Jvm.Cond.selects "BlinkMesh$Mesh" ({ cls := "BlinkMesh$Mesh", name := "lampWithMostLinks", desc := "()I" } : Jvm.MethodName) ({ cls := "BlinkMesh$Mesh", name := "lampWithMostLinks", desc := "()I" } : Jvm.MethodName)) ∈ gtbl := gw 146 (by decide +kernel) rfl
theorem k147 : (Jvm.Cond.code ({ cls := "BlinkMesh$Mesh", name := "lampWithMostLinks", desc := "()I" } : Jvm.MethodName) prog_3_method_39_code (5 : Nat) (Option.some Jvm.ClassFile.FieldType.int)) ∈ gtbl := gw 147 (by decide +kernel) rfl
theorem k148 : (Jvm.Cond.methodLink "BlinkMesh$Mesh" (83 : Nat) ({ cls := "java/lang/Integer", name := "bitCount", desc := "(I)I" } : Jvm.MethodName)) ∈ gtbl := gw 148 (by decide +kernel) rfl
theorem k149 : (Jvm.Cond.static ({ cls := "java/lang/Integer", name := "bitCount", desc := "(I)I" } : Jvm.MethodName)) ∈ gtbl := gw 149 (by decide +kernel) rfl
theorem k150 : (Jvm.Cond.code ({ cls := "java/lang/Integer", name := "bitCount", desc := "(I)I" } : Jvm.MethodName) prog_8_method_49_code (1 : Nat) (Option.some Jvm.ClassFile.FieldType.int)) ∈ gtbl := gw 150 (by decide +kernel) rfl
theorem k151 : (Jvm.Cond.constant "java/lang/Integer" (265 : Nat) (1431655765 : Int32)) ∈ gtbl := gw 151 (by decide +kernel) rfl
theorem k152 : (Jvm.Cond.constant "java/lang/Integer" (266 : Nat) (858993459 : Int32)) ∈ gtbl := gw 152 (by decide +kernel) rfl
theorem k153 : (Jvm.Cond.constant "java/lang/Integer" (267 : Nat) (252645135 : Int32)) ∈ gtbl := gw 153 (by decide +kernel) rfl
theorem k155 : (Jvm.Cond.static ({ cls := "BlinkMesh", name := "holds", desc := "(II)Z" } : Jvm.MethodName)) ∈ gtbl := gw 155 (by decide +kernel) rfl
theorem k156 : (Jvm.Cond.code ({ cls := "BlinkMesh", name := "holds", desc := "(II)Z" } : Jvm.MethodName) prog_1_method_26_code (2 : Nat) (Option.some Jvm.ClassFile.FieldType.boolean)) ∈ gtbl := gw 156 (by decide +kernel) rfl
theorem k157 : (Jvm.Cond.methodLink "BlinkMeshLaw" (65 : Nat) ({ cls := "BlinkMesh", name := "bestLink", desc := "(I)I" } : Jvm.MethodName)) ∈ gtbl := gw 157 (by decide +kernel) rfl
theorem k158 : (Jvm.Cond.instanceMethod ({ cls := "BlinkMesh", name := "bestLink", desc := "(I)I" } : Jvm.MethodName)) ∈ gtbl := gw 158 (by decide +kernel) rfl
theorem k159 : (Jvm.Cond.selects "BlinkMesh" ({ cls := "BlinkMesh", name := "bestLink", desc := "(I)I" } : Jvm.MethodName) ({ cls := "BlinkMesh", name := "bestLink", desc := "(I)I" } : Jvm.MethodName)) ∈ gtbl := gw 159 (by decide +kernel) rfl
theorem k160 : (Jvm.Cond.code ({ cls := "BlinkMesh", name := "bestLink", desc := "(I)I" } : Jvm.MethodName) prog_1_method_23_code (8 : Nat) (Option.some Jvm.ClassFile.FieldType.int)) ∈ gtbl := gw 160 (by decide +kernel) rfl
theorem k161 : (Jvm.Cond.methodLink "BlinkMesh" (178 : Nat) ({ cls := "BlinkMesh$Mesh", name := "couldLink", desc := "(II)Z" } : Jvm.MethodName)) ∈ gtbl := gw 161 (by decide +kernel) rfl
theorem k162 : (Jvm.Cond.instanceMethod ({ cls := "BlinkMesh$Mesh", name := "couldLink", desc := "(II)Z" } : Jvm.MethodName)) ∈ gtbl := gw 162 (by decide +kernel) rfl
theorem k163 : (Jvm.Cond.selects "BlinkMesh$Mesh" ({ cls := "BlinkMesh$Mesh", name := "couldLink", desc := "(II)Z" } : Jvm.MethodName) ({ cls := "BlinkMesh$Mesh", name := "couldLink", desc := "(II)Z" } : Jvm.MethodName)) ∈ gtbl := gw 163 (by decide +kernel) rfl
theorem k164 : (Jvm.Cond.code ({ cls := "BlinkMesh$Mesh", name := "couldLink", desc := "(II)Z" } : Jvm.MethodName) prog_3_method_6_code (3 : Nat) (Option.some Jvm.ClassFile.FieldType.boolean)) ∈ gtbl := gw 164 (by decide +kernel) rfl
theorem k165 : (Jvm.Cond.methodLink "BlinkMesh$Mesh" (76 : Nat) ({ cls := "BlinkMesh$Mesh", name := "isOn", desc := "(I)Z" } : Jvm.MethodName)) ∈ gtbl := gw 165 (by decide +kernel) rfl
theorem k166 : (Jvm.Cond.instanceMethod ({ cls := "BlinkMesh$Mesh", name := "isOn", desc := "(I)Z" } : Jvm.MethodName)) ∈ gtbl := gw 166 (by decide +kernel) rfl
theorem k167 : (Jvm.Cond.selects "BlinkMesh$Mesh" ({ cls := "BlinkMesh$Mesh", name := "isOn", desc := "(I)Z" } : Jvm.MethodName) ({ cls := "BlinkMesh$Mesh", name := "isOn", desc := "(I)Z" } : Jvm.MethodName)) ∈ gtbl := gw 167 (by decide +kernel) rfl
theorem k168 : (Jvm.Cond.code ({ cls := "BlinkMesh$Mesh", name := "isOn", desc := "(I)Z" } : Jvm.MethodName) prog_3_method_4_code (2 : Nat) (Option.some Jvm.ClassFile.FieldType.boolean)) ∈ gtbl := gw 168 (by decide +kernel) rfl
theorem k169 : (Jvm.Cond.methodLink "BlinkMesh$Mesh" (80 : Nat) ({ cls := "BlinkMesh$Mesh", name := "isLinked", desc := "(II)Z" } : Jvm.MethodName)) ∈ gtbl := gw 169 (by decide +kernel) rfl
theorem k170 : (Jvm.Cond.instanceMethod ({ cls := "BlinkMesh$Mesh", name := "isLinked", desc := "(II)Z" } : Jvm.MethodName)) ∈ gtbl := gw 170 (by decide +kernel) rfl
theorem k171 : (Jvm.Cond.selects "BlinkMesh$Mesh" ({ cls := "BlinkMesh$Mesh", name := "isLinked", desc := "(II)Z" } : Jvm.MethodName) ({ cls := "BlinkMesh$Mesh", name := "isLinked", desc := "(II)Z" } : Jvm.MethodName)) ∈ gtbl := gw 171 (by decide +kernel) rfl
theorem k172 : (Jvm.Cond.code ({ cls := "BlinkMesh$Mesh", name := "isLinked", desc := "(II)Z" } : Jvm.MethodName) prog_3_method_5_code (3 : Nat) (Option.some Jvm.ClassFile.FieldType.boolean)) ∈ gtbl := gw 172 (by decide +kernel) rfl
theorem k173 : (Jvm.Cond.methodLink "BlinkMesh" (181 : Nat) ({ cls := "BlinkMesh", name := "spreadWith", desc := "(II)I" } : Jvm.MethodName)) ∈ gtbl := gw 173 (by decide +kernel) rfl
theorem k175 : (Jvm.Cond.instanceMethod ({ cls := "BlinkMesh", name := "spreadWith", desc := "(II)I" } : Jvm.MethodName)) ∈ gtbl := gw 175 (by decide +kernel) rfl
theorem k176 : (Jvm.Cond.code ({ cls := "BlinkMesh", name := "spreadWith", desc := "(II)I" } : Jvm.MethodName) prog_1_method_28_code (3 : Nat) (Option.some Jvm.ClassFile.FieldType.int)) ∈ gtbl := gw 176 (by decide +kernel) rfl
theorem k177 : (Jvm.Cond.methodLink "BlinkMesh" (148 : Nat) ({ cls := "BlinkMesh$Mesh", name := "copyFrom", desc := "(LBlinkMesh$Mesh;)V" } : Jvm.MethodName)) ∈ gtbl := gw 177 (by decide +kernel) rfl
theorem k178 : (Jvm.Cond.instanceMethod ({ cls := "BlinkMesh$Mesh", name := "copyFrom", desc := "(LBlinkMesh$Mesh;)V" } : Jvm.MethodName)) ∈ gtbl := gw 178 (by decide +kernel) rfl
theorem k179 : (Jvm.Cond.selects "BlinkMesh$Mesh" ({ cls := "BlinkMesh$Mesh", name := "copyFrom", desc := "(LBlinkMesh$Mesh;)V" } : Jvm.MethodName) ({ cls := "BlinkMesh$Mesh", name := "copyFrom", desc := "(LBlinkMesh$Mesh;)V" } : Jvm.MethodName)) ∈ gtbl := gw 179 (by decide +kernel) rfl
theorem k180 : (Jvm.Cond.code ({ cls := "BlinkMesh$Mesh", name := "copyFrom", desc := "(LBlinkMesh$Mesh;)V" } : Jvm.MethodName) prog_3_method_2_code (2 : Nat) (Option.none : Option Jvm.ClassFile.FieldType)) ∈ gtbl := gw 180 (by decide +kernel) rfl
theorem k181 : (Jvm.Cond.methodLink "BlinkMesh$Mesh" (44 : Nat) ({ cls := "java/lang/System", name := "arraycopy", desc := "(Ljava/lang/Object;ILjava/lang/Object;II)V" } : Jvm.MethodName)) ∈ gtbl := gw 181 (by decide +kernel) rfl
theorem k182 : (Jvm.Cond.static ({ cls := "java/lang/System", name := "arraycopy", desc := "(Ljava/lang/Object;ILjava/lang/Object;II)V" } : Jvm.MethodName)) ∈ gtbl := gw 182 (by decide +kernel) rfl
theorem k183 : (Jvm.Cond.native ({ cls := "java/lang/System", name := "arraycopy", desc := "(Ljava/lang/Object;ILjava/lang/Object;II)V" } : Jvm.MethodName)) ∈ gtbl := gw 183 (by decide +kernel) rfl
theorem k184 : (Jvm.Cond.methodLink "BlinkMesh" (80 : Nat) ({ cls := "BlinkMesh$Mesh", name := "changeLink", desc := "(IIZ)V" } : Jvm.MethodName)) ∈ gtbl := gw 184 (by decide +kernel) rfl
theorem k185 : (Jvm.Cond.instanceMethod ({ cls := "BlinkMesh$Mesh", name := "changeLink", desc := "(IIZ)V" } : Jvm.MethodName)) ∈ gtbl := gw 185 (by decide +kernel) rfl
theorem k186 : (Jvm.Cond.selects "BlinkMesh$Mesh" ({ cls := "BlinkMesh$Mesh", name := "changeLink", desc := "(IIZ)V" } : Jvm.MethodName) ({ cls := "BlinkMesh$Mesh", name := "changeLink", desc := "(IIZ)V" } : Jvm.MethodName)) ∈ gtbl := gw 186 (by decide +kernel) rfl
theorem k187 : (Jvm.Cond.code ({ cls := "BlinkMesh$Mesh", name := "changeLink", desc := "(IIZ)V" } : Jvm.MethodName) prog_3_method_19_code (4 : Nat) (Option.none : Option Jvm.ClassFile.FieldType)) ∈ gtbl := gw 187 (by decide +kernel) rfl
theorem k188 : (Jvm.Cond.methodLink "BlinkMesh" (112 : Nat) ({ cls := "BlinkMesh$Mesh", name := "tickOften", desc := "(I)V" } : Jvm.MethodName)) ∈ gtbl := gw 188 (by decide +kernel) rfl
theorem k189 : (Jvm.Cond.instanceMethod ({ cls := "BlinkMesh$Mesh", name := "tickOften", desc := "(I)V" } : Jvm.MethodName)) ∈ gtbl := gw 189 (by decide +kernel) rfl
theorem k190 : (Jvm.Cond.selects "BlinkMesh$Mesh" ({ cls := "BlinkMesh$Mesh", name := "tickOften", desc := "(I)V" } : Jvm.MethodName) ({ cls := "BlinkMesh$Mesh", name := "tickOften", desc := "(I)V" } : Jvm.MethodName)) ∈ gtbl := gw 190 (by decide +kernel) rfl
theorem k191 : (Jvm.Cond.code ({ cls := "BlinkMesh$Mesh", name := "tickOften", desc := "(I)V" } : Jvm.MethodName) prog_3_method_24_code (3 : Nat) (Option.none : Option Jvm.ClassFile.FieldType)) ∈ gtbl := gw 191 (by decide +kernel) rfl
theorem k192 : (Jvm.Cond.methodLink "BlinkMesh$Mesh" (102 : Nat) ({ cls := "BlinkMesh$Mesh", name := "tickOnce", desc := "()I" } : Jvm.MethodName)) ∈ gtbl := gw 192 (by decide +kernel) rfl
theorem k193 : (Jvm.Cond.instanceMethod ({ cls := "BlinkMesh$Mesh", name := "tickOnce", desc := "()I" } : Jvm.MethodName)) ∈ gtbl := gw 193 (by decide +kernel) rfl
theorem k194 : (Jvm.Cond.selects "BlinkMesh$Mesh" ({ cls := "BlinkMesh$Mesh", name := "tickOnce", desc := "()I" } : Jvm.MethodName) ({ cls := "BlinkMesh$Mesh", name := "tickOnce", desc := "()I" } : Jvm.MethodName)) ∈ gtbl := gw 194 (by decide +kernel) rfl
theorem k195 : (Jvm.Cond.code ({ cls := "BlinkMesh$Mesh", name := "tickOnce", desc := "()I" } : Jvm.MethodName) prog_3_method_25_code (4 : Nat) (Option.some Jvm.ClassFile.FieldType.int)) ∈ gtbl := gw 195 (by decide +kernel) rfl
theorem k196 : (Jvm.Cond.methodLink "BlinkMesh$Mesh" (105 : Nat) ({ cls := "BlinkMesh$Mesh", name := "grow", desc := "()I" } : Jvm.MethodName)) ∈ gtbl := gw 196 (by decide +kernel) rfl
theorem k198 : (Jvm.Cond.instanceMethod ({ cls := "BlinkMesh$Mesh", name := "grow", desc := "()I" } : Jvm.MethodName)) ∈ gtbl := gw 198 (by decide +kernel) rfl
theorem k199 : (Jvm.Cond.code ({ cls := "BlinkMesh$Mesh", name := "grow", desc := "()I" } : Jvm.MethodName) prog_3_method_26_code (4 : Nat) (Option.some Jvm.ClassFile.FieldType.int)) ∈ gtbl := gw 199 (by decide +kernel) rfl
theorem k200 : (Jvm.Cond.methodLink "BlinkMesh$Mesh" (92 : Nat) ({ cls := "BlinkMesh$Mesh", name := "fullPhase", desc := "()I" } : Jvm.MethodName)) ∈ gtbl := gw 200 (by decide +kernel) rfl
theorem k202 : (Jvm.Cond.instanceMethod ({ cls := "BlinkMesh$Mesh", name := "fullPhase", desc := "()I" } : Jvm.MethodName)) ∈ gtbl := gw 202 (by decide +kernel) rfl
theorem k203 : (Jvm.Cond.code ({ cls := "BlinkMesh$Mesh", name := "fullPhase", desc := "()I" } : Jvm.MethodName) prog_3_method_23_code (1 : Nat) (Option.some Jvm.ClassFile.FieldType.int)) ∈ gtbl := gw 203 (by decide +kernel) rfl
theorem k204 : (Jvm.Cond.methodLink "BlinkMesh$Mesh" (108 : Nat) ({ cls := "BlinkMesh$Mesh", name := "blink", desc := "(I)V" } : Jvm.MethodName)) ∈ gtbl := gw 204 (by decide +kernel) rfl
theorem k206 : (Jvm.Cond.instanceMethod ({ cls := "BlinkMesh$Mesh", name := "blink", desc := "(I)V" } : Jvm.MethodName)) ∈ gtbl := gw 206 (by decide +kernel) rfl
theorem k207 : (Jvm.Cond.code ({ cls := "BlinkMesh$Mesh", name := "blink", desc := "(I)V" } : Jvm.MethodName) prog_3_method_27_code (3 : Nat) (Option.none : Option Jvm.ClassFile.FieldType)) ∈ gtbl := gw 207 (by decide +kernel) rfl
theorem k208 : (Jvm.Cond.methodLink "BlinkMesh$Mesh" (112 : Nat) ({ cls := "BlinkMesh$Mesh", name := "pushFrom", desc := "(II)I" } : Jvm.MethodName)) ∈ gtbl := gw 208 (by decide +kernel) rfl
theorem k210 : (Jvm.Cond.instanceMethod ({ cls := "BlinkMesh$Mesh", name := "pushFrom", desc := "(II)I" } : Jvm.MethodName)) ∈ gtbl := gw 210 (by decide +kernel) rfl
theorem k211 : (Jvm.Cond.code ({ cls := "BlinkMesh$Mesh", name := "pushFrom", desc := "(II)I" } : Jvm.MethodName) prog_3_method_28_code (5 : Nat) (Option.some Jvm.ClassFile.FieldType.int)) ∈ gtbl := gw 211 (by decide +kernel) rfl
theorem k212 : (Jvm.Cond.methodLink "BlinkMesh$Mesh" (118 : Nat) ({ cls := "BlinkMesh$Mesh", name := "pushAll", desc := "(I)I" } : Jvm.MethodName)) ∈ gtbl := gw 212 (by decide +kernel) rfl
theorem k214 : (Jvm.Cond.instanceMethod ({ cls := "BlinkMesh$Mesh", name := "pushAll", desc := "(I)I" } : Jvm.MethodName)) ∈ gtbl := gw 214 (by decide +kernel) rfl
theorem k215 : (Jvm.Cond.code ({ cls := "BlinkMesh$Mesh", name := "pushAll", desc := "(I)I" } : Jvm.MethodName) prog_3_method_29_code (6 : Nat) (Option.some Jvm.ClassFile.FieldType.int)) ∈ gtbl := gw 215 (by decide +kernel) rfl
theorem k216 : (Jvm.Cond.methodLink "BlinkMesh$Mesh" (96 : Nat) ({ cls := "java/lang/Math", name := "min", desc := "(II)I" } : Jvm.MethodName)) ∈ gtbl := gw 216 (by decide +kernel) rfl
theorem k217 : (Jvm.Cond.static ({ cls := "java/lang/Math", name := "min", desc := "(II)I" } : Jvm.MethodName)) ∈ gtbl := gw 217 (by decide +kernel) rfl
theorem k218 : (Jvm.Cond.code ({ cls := "java/lang/Math", name := "min", desc := "(II)I" } : Jvm.MethodName) prog_9_method_69_code (2 : Nat) (Option.some Jvm.ClassFile.FieldType.int)) ∈ gtbl := gw 218 (by decide +kernel) rfl
theorem k219 : (Jvm.Cond.methodLink "BlinkMesh$Mesh" (115 : Nat) ({ cls := "BlinkMesh$Mesh", name := "account", desc := "(I)V" } : Jvm.MethodName)) ∈ gtbl := gw 219 (by decide +kernel) rfl
theorem k221 : (Jvm.Cond.instanceMethod ({ cls := "BlinkMesh$Mesh", name := "account", desc := "(I)V" } : Jvm.MethodName)) ∈ gtbl := gw 221 (by decide +kernel) rfl
theorem k222 : (Jvm.Cond.code ({ cls := "BlinkMesh$Mesh", name := "account", desc := "(I)V" } : Jvm.MethodName) prog_3_method_30_code (2 : Nat) (Option.none : Option Jvm.ClassFile.FieldType)) ∈ gtbl := gw 222 (by decide +kernel) rfl
theorem k223 : (Jvm.Cond.methodLink "BlinkMesh$Mesh" (121 : Nat) ({ cls := "java/lang/Math", name := "max", desc := "(II)I" } : Jvm.MethodName)) ∈ gtbl := gw 223 (by decide +kernel) rfl
theorem k224 : (Jvm.Cond.static ({ cls := "java/lang/Math", name := "max", desc := "(II)I" } : Jvm.MethodName)) ∈ gtbl := gw 224 (by decide +kernel) rfl
theorem k225 : (Jvm.Cond.code ({ cls := "java/lang/Math", name := "max", desc := "(II)I" } : Jvm.MethodName) prog_9_method_65_code (2 : Nat) (Option.some Jvm.ClassFile.FieldType.int)) ∈ gtbl := gw 225 (by decide +kernel) rfl
theorem k226 : (Jvm.Cond.methodLink "BlinkMesh" (172 : Nat) ({ cls := "BlinkMesh$Mesh", name := "greatestDistance", desc := "()I" } : Jvm.MethodName)) ∈ gtbl := gw 226 (by decide +kernel) rfl
theorem k227 : (Jvm.Cond.instanceMethod ({ cls := "BlinkMesh$Mesh", name := "greatestDistance", desc := "()I" } : Jvm.MethodName)) ∈ gtbl := gw 227 (by decide +kernel) rfl
theorem k228 : (Jvm.Cond.selects "BlinkMesh$Mesh" ({ cls := "BlinkMesh$Mesh", name := "greatestDistance", desc := "()I" } : Jvm.MethodName) ({ cls := "BlinkMesh$Mesh", name := "greatestDistance", desc := "()I" } : Jvm.MethodName)) ∈ gtbl := gw 228 (by decide +kernel) rfl
theorem k229 : (Jvm.Cond.code ({ cls := "BlinkMesh$Mesh", name := "greatestDistance", desc := "()I" } : Jvm.MethodName) prog_3_method_32_code (4 : Nat) (Option.some Jvm.ClassFile.FieldType.int)) ∈ gtbl := gw 229 (by decide +kernel) rfl
theorem k230 : (Jvm.Cond.methodLink "BlinkMesh$Mesh" (127 : Nat) ({ cls := "BlinkMesh$Mesh", name := "distance", desc := "(II)I" } : Jvm.MethodName)) ∈ gtbl := gw 230 (by decide +kernel) rfl
theorem k231 : (Jvm.Cond.instanceMethod ({ cls := "BlinkMesh$Mesh", name := "distance", desc := "(II)I" } : Jvm.MethodName)) ∈ gtbl := gw 231 (by decide +kernel) rfl
theorem k232 : (Jvm.Cond.selects "BlinkMesh$Mesh" ({ cls := "BlinkMesh$Mesh", name := "distance", desc := "(II)I" } : Jvm.MethodName) ({ cls := "BlinkMesh$Mesh", name := "distance", desc := "(II)I" } : Jvm.MethodName)) ∈ gtbl := gw 232 (by decide +kernel) rfl
theorem k233 : (Jvm.Cond.code ({ cls := "BlinkMesh$Mesh", name := "distance", desc := "(II)I" } : Jvm.MethodName) prog_3_method_31_code (4 : Nat) (Option.some Jvm.ClassFile.FieldType.int)) ∈ gtbl := gw 233 (by decide +kernel) rfl
theorem k234 : (Jvm.Cond.methodLink "BlinkMesh$Mesh" (124 : Nat) ({ cls := "java/lang/Math", name := "abs", desc := "(I)I" } : Jvm.MethodName)) ∈ gtbl := gw 234 (by decide +kernel) rfl
theorem k235 : (Jvm.Cond.static ({ cls := "java/lang/Math", name := "abs", desc := "(I)I" } : Jvm.MethodName)) ∈ gtbl := gw 235 (by decide +kernel) rfl
theorem k236 : (Jvm.Cond.code ({ cls := "java/lang/Math", name := "abs", desc := "(I)I" } : Jvm.MethodName) prog_9_method_59_code (1 : Nat) (Option.some Jvm.ClassFile.FieldType.int)) ∈ gtbl := gw 236 (by decide +kernel) rfl
theorem k237 : (Jvm.Cond.methodLink "BlinkMeshLaw" (119 : Nat) ({ cls := "BlinkMeshLaw", name := "cell", desc := "([II)I" } : Jvm.MethodName)) ∈ gtbl := gw 237 (by decide +kernel) rfl
theorem k238 : (Jvm.Cond.static ({ cls := "BlinkMeshLaw", name := "cell", desc := "([II)I" } : Jvm.MethodName)) ∈ gtbl := gw 238 (by decide +kernel) rfl
theorem k239 : (Jvm.Cond.code ({ cls := "BlinkMeshLaw", name := "cell", desc := "([II)I" } : Jvm.MethodName) method_2_code (2 : Nat) (Option.some Jvm.ClassFile.FieldType.int)) ∈ gtbl := gw 239 rfl rfl
theorem k240 : (Jvm.Cond.constant "BlinkMeshLaw" (7 : Nat) (800445415 : Int32)) ∈ gtbl := gw 240 (by decide +kernel) rfl
theorem k241 : (Jvm.Cond.constant "BlinkMeshLaw" (8 : Nat) (935961071 : Int32)) ∈ gtbl := gw 241 (by decide +kernel) rfl
theorem k242 : (Jvm.Cond.methodLink "BlinkMeshLaw" (113 : Nat) ({ cls := "BlinkMeshLaw", name := "holds", desc := "(LBlinkMesh;)Z" } : Jvm.MethodName)) ∈ gtbl := gw 242 (by decide +kernel) rfl
theorem k243 : (Jvm.Cond.static ({ cls := "BlinkMeshLaw", name := "holds", desc := "(LBlinkMesh;)Z" } : Jvm.MethodName)) ∈ gtbl := gw 243 (by decide +kernel) rfl
theorem k244 : (Jvm.Cond.code ({ cls := "BlinkMeshLaw", name := "holds", desc := "(LBlinkMesh;)Z" } : Jvm.MethodName) method_7_code (10 : Nat) (Option.some Jvm.ClassFile.FieldType.boolean)) ∈ gtbl := gw 244 rfl rfl
theorem k245 : (Jvm.Cond.methodLink "BlinkMeshLaw" (26 : Nat) ({ cls := "BlinkMeshLaw", name := "isThere", desc := "(LBlinkMesh;I)Z" } : Jvm.MethodName)) ∈ gtbl := gw 245 (by decide +kernel) rfl
theorem k246 : (Jvm.Cond.static ({ cls := "BlinkMeshLaw", name := "isThere", desc := "(LBlinkMesh;I)Z" } : Jvm.MethodName)) ∈ gtbl := gw 246 (by decide +kernel) rfl
theorem k247 : (Jvm.Cond.code ({ cls := "BlinkMeshLaw", name := "isThere", desc := "(LBlinkMesh;I)Z" } : Jvm.MethodName) method_5_code (2 : Nat) (Option.some Jvm.ClassFile.FieldType.boolean)) ∈ gtbl := gw 247 rfl rfl
theorem k248 : (Jvm.Cond.methodLink "BlinkMeshLaw" (10 : Nat) ({ cls := "BlinkMesh", name := "lamp", desc := "(II)I" } : Jvm.MethodName)) ∈ gtbl := gw 248 (by decide +kernel) rfl
theorem k249 : (Jvm.Cond.instanceMethod ({ cls := "BlinkMesh", name := "lamp", desc := "(II)I" } : Jvm.MethodName)) ∈ gtbl := gw 249 (by decide +kernel) rfl
theorem k250 : (Jvm.Cond.selects "BlinkMesh" ({ cls := "BlinkMesh", name := "lamp", desc := "(II)I" } : Jvm.MethodName) ({ cls := "BlinkMesh", name := "lamp", desc := "(II)I" } : Jvm.MethodName)) ∈ gtbl := gw 250 (by decide +kernel) rfl
theorem k251 : (Jvm.Cond.code ({ cls := "BlinkMesh", name := "lamp", desc := "(II)I" } : Jvm.MethodName) prog_1_method_15_code (3 : Nat) (Option.some Jvm.ClassFile.FieldType.int)) ∈ gtbl := gw 251 (by decide +kernel) rfl
theorem k252 : (Jvm.Cond.methodLink "BlinkMesh" (59 : Nat) ({ cls := "BlinkMesh$Mesh", name := "has", desc := "(I)Z" } : Jvm.MethodName)) ∈ gtbl := gw 252 (by decide +kernel) rfl
theorem k253 : (Jvm.Cond.instanceMethod ({ cls := "BlinkMesh$Mesh", name := "has", desc := "(I)Z" } : Jvm.MethodName)) ∈ gtbl := gw 253 (by decide +kernel) rfl
theorem k254 : (Jvm.Cond.selects "BlinkMesh$Mesh" ({ cls := "BlinkMesh$Mesh", name := "has", desc := "(I)Z" } : Jvm.MethodName) ({ cls := "BlinkMesh$Mesh", name := "has", desc := "(I)Z" } : Jvm.MethodName)) ∈ gtbl := gw 254 (by decide +kernel) rfl
theorem k255 : (Jvm.Cond.code ({ cls := "BlinkMesh$Mesh", name := "has", desc := "(I)Z" } : Jvm.MethodName) prog_3_method_3_code (2 : Nat) (Option.some Jvm.ClassFile.FieldType.boolean)) ∈ gtbl := gw 255 (by decide +kernel) rfl
theorem k256 : (Jvm.Cond.methodLink "BlinkMesh" (151 : Nat) ({ cls := "BlinkMesh$Mesh", name := "tellLamp", desc := "(II)I" } : Jvm.MethodName)) ∈ gtbl := gw 256 (by decide +kernel) rfl
theorem k257 : (Jvm.Cond.instanceMethod ({ cls := "BlinkMesh$Mesh", name := "tellLamp", desc := "(II)I" } : Jvm.MethodName)) ∈ gtbl := gw 257 (by decide +kernel) rfl
theorem k258 : (Jvm.Cond.selects "BlinkMesh$Mesh" ({ cls := "BlinkMesh$Mesh", name := "tellLamp", desc := "(II)I" } : Jvm.MethodName) ({ cls := "BlinkMesh$Mesh", name := "tellLamp", desc := "(II)I" } : Jvm.MethodName)) ∈ gtbl := gw 258 (by decide +kernel) rfl
theorem k259 : (Jvm.Cond.code ({ cls := "BlinkMesh$Mesh", name := "tellLamp", desc := "(II)I" } : Jvm.MethodName) prog_3_method_40_code (3 : Nat) (Option.some Jvm.ClassFile.FieldType.int)) ∈ gtbl := gw 259 (by decide +kernel) rfl
theorem k260 : (Jvm.Cond.methodLink "BlinkMesh$Mesh" (133 : Nat) ({ cls := "BlinkMesh$Mesh", name := "pieceOf", desc := "(I)I" } : Jvm.MethodName)) ∈ gtbl := gw 260 (by decide +kernel) rfl
theorem k262 : (Jvm.Cond.instanceMethod ({ cls := "BlinkMesh$Mesh", name := "pieceOf", desc := "(I)I" } : Jvm.MethodName)) ∈ gtbl := gw 262 (by decide +kernel) rfl
theorem k263 : (Jvm.Cond.code ({ cls := "BlinkMesh$Mesh", name := "pieceOf", desc := "(I)I" } : Jvm.MethodName) prog_3_method_35_code (5 : Nat) (Option.some Jvm.ClassFile.FieldType.int)) ∈ gtbl := gw 263 (by decide +kernel) rfl
theorem k264 : (Jvm.Cond.methodLink "BlinkMesh$Mesh" (130 : Nat) ({ cls := "BlinkMesh$Mesh", name := "neighbours", desc := "(I)I" } : Jvm.MethodName)) ∈ gtbl := gw 264 (by decide +kernel) rfl
theorem k266 : (Jvm.Cond.instanceMethod ({ cls := "BlinkMesh$Mesh", name := "neighbours", desc := "(I)I" } : Jvm.MethodName)) ∈ gtbl := gw 266 (by decide +kernel) rfl
theorem k267 : (Jvm.Cond.code ({ cls := "BlinkMesh$Mesh", name := "neighbours", desc := "(I)I" } : Jvm.MethodName) prog_3_method_36_code (4 : Nat) (Option.some Jvm.ClassFile.FieldType.int)) ∈ gtbl := gw 267 (by decide +kernel) rfl
theorem k268 : (Jvm.Cond.methodLink "BlinkMesh$Mesh" (136 : Nat) ({ cls := "BlinkMesh$Mesh", name := "agreeing", desc := "(I)I" } : Jvm.MethodName)) ∈ gtbl := gw 268 (by decide +kernel) rfl
theorem k270 : (Jvm.Cond.instanceMethod ({ cls := "BlinkMesh$Mesh", name := "agreeing", desc := "(I)I" } : Jvm.MethodName)) ∈ gtbl := gw 270 (by decide +kernel) rfl
theorem k271 : (Jvm.Cond.code ({ cls := "BlinkMesh$Mesh", name := "agreeing", desc := "(I)I" } : Jvm.MethodName) prog_3_method_38_code (4 : Nat) (Option.some Jvm.ClassFile.FieldType.int)) ∈ gtbl := gw 271 (by decide +kernel) rfl
theorem k272 : (Jvm.Cond.methodLink "BlinkMeshLaw" (16 : Nat) ({ cls := "BlinkMeshLaw", name := "isOn", desc := "(LBlinkMesh;I)Z" } : Jvm.MethodName)) ∈ gtbl := gw 272 (by decide +kernel) rfl
theorem k273 : (Jvm.Cond.static ({ cls := "BlinkMeshLaw", name := "isOn", desc := "(LBlinkMesh;I)Z" } : Jvm.MethodName)) ∈ gtbl := gw 273 (by decide +kernel) rfl
theorem k274 : (Jvm.Cond.code ({ cls := "BlinkMeshLaw", name := "isOn", desc := "(LBlinkMesh;I)Z" } : Jvm.MethodName) method_4_code (2 : Nat) (Option.some Jvm.ClassFile.FieldType.boolean)) ∈ gtbl := gw 274 rfl rfl
theorem k275 : (Jvm.Cond.methodLink "BlinkMeshLaw" (29 : Nat) ({ cls := "BlinkMesh", name := "apart", desc := "(II)I" } : Jvm.MethodName)) ∈ gtbl := gw 275 (by decide +kernel) rfl
theorem k276 : (Jvm.Cond.instanceMethod ({ cls := "BlinkMesh", name := "apart", desc := "(II)I" } : Jvm.MethodName)) ∈ gtbl := gw 276 (by decide +kernel) rfl
theorem k277 : (Jvm.Cond.selects "BlinkMesh" ({ cls := "BlinkMesh", name := "apart", desc := "(II)I" } : Jvm.MethodName) ({ cls := "BlinkMesh", name := "apart", desc := "(II)I" } : Jvm.MethodName)) ∈ gtbl := gw 277 (by decide +kernel) rfl
theorem k278 : (Jvm.Cond.code ({ cls := "BlinkMesh", name := "apart", desc := "(II)I" } : Jvm.MethodName) prog_1_method_16_code (3 : Nat) (Option.some Jvm.ClassFile.FieldType.int)) ∈ gtbl := gw 278 (by decide +kernel) rfl
theorem k279 : (Jvm.Cond.methodLink "BlinkMesh" (154 : Nat) ({ cls := "BlinkMesh$Mesh", name := "distance", desc := "(II)I" } : Jvm.MethodName)) ∈ gtbl := gw 279 (by decide +kernel) rfl
theorem k280 : (Jvm.Cond.methodLink "BlinkMeshLaw" (22 : Nat) ({ cls := "BlinkMesh", name := "count", desc := "(I)I" } : Jvm.MethodName)) ∈ gtbl := gw 280 (by decide +kernel) rfl
theorem k281 : (Jvm.Cond.instanceMethod ({ cls := "BlinkMesh", name := "count", desc := "(I)I" } : Jvm.MethodName)) ∈ gtbl := gw 281 (by decide +kernel) rfl
theorem k282 : (Jvm.Cond.selects "BlinkMesh" ({ cls := "BlinkMesh", name := "count", desc := "(I)I" } : Jvm.MethodName) ({ cls := "BlinkMesh", name := "count", desc := "(I)I" } : Jvm.MethodName)) ∈ gtbl := gw 282 (by decide +kernel) rfl
theorem k283 : (Jvm.Cond.code ({ cls := "BlinkMesh", name := "count", desc := "(I)I" } : Jvm.MethodName) prog_1_method_24_code (2 : Nat) (Option.some Jvm.ClassFile.FieldType.int)) ∈ gtbl := gw 283 (by decide +kernel) rfl
theorem k284 : (Jvm.Cond.methodLink "BlinkMesh" (142 : Nat) ({ cls := "BlinkMesh$History", name := "size", desc := "()I" } : Jvm.MethodName)) ∈ gtbl := gw 284 (by decide +kernel) rfl
end
section
theorem k285 : (Jvm.Cond.instanceMethod ({ cls := "BlinkMesh$History", name := "size", desc := "()I" } : Jvm.MethodName)) ∈ gtbl := gw 285 (by decide +kernel) rfl
theorem k286 : (Jvm.Cond.selects "BlinkMesh$History" ({ cls := "BlinkMesh$History", name := "size", desc := "()I" } : Jvm.MethodName) ({ cls := "BlinkMesh$History", name := "size", desc := "()I" } : Jvm.MethodName)) ∈ gtbl := gw 286 (by decide +kernel) rfl
theorem k287 : (Jvm.Cond.code ({ cls := "BlinkMesh$History", name := "size", desc := "()I" } : Jvm.MethodName) prog_2_method_2_code (1 : Nat) (Option.some Jvm.ClassFile.FieldType.int)) ∈ gtbl := gw 287 (by decide +kernel) rfl
theorem k288 : (Jvm.Cond.methodLink "BlinkMesh" (124 : Nat) ({ cls := "BlinkMesh$MeshText", name := "length", desc := "()I" } : Jvm.MethodName)) ∈ gtbl := gw 288 (by decide +kernel) rfl
theorem k289 : (Jvm.Cond.instanceMethod ({ cls := "BlinkMesh$MeshText", name := "length", desc := "()I" } : Jvm.MethodName)) ∈ gtbl := gw 289 (by decide +kernel) rfl
theorem k290 : (Jvm.Cond.selects "BlinkMesh$MeshText" ({ cls := "BlinkMesh$MeshText", name := "length", desc := "()I" } : Jvm.MethodName) ({ cls := "BlinkMesh$MeshText", name := "length", desc := "()I" } : Jvm.MethodName)) ∈ gtbl := gw 290 (by decide +kernel) rfl
theorem k291 : (Jvm.Cond.code ({ cls := "BlinkMesh$MeshText", name := "length", desc := "()I" } : Jvm.MethodName) prog_4_method_2_code (1 : Nat) (Option.some Jvm.ClassFile.FieldType.int)) ∈ gtbl := gw 291 (by decide +kernel) rfl
theorem k292 : (Jvm.Cond.methodLink "BlinkMesh" (184 : Nat) ({ cls := "BlinkMesh$Mesh", name := "tellMesh", desc := "(I)I" } : Jvm.MethodName)) ∈ gtbl := gw 292 (by decide +kernel) rfl
theorem k293 : (Jvm.Cond.instanceMethod ({ cls := "BlinkMesh$Mesh", name := "tellMesh", desc := "(I)I" } : Jvm.MethodName)) ∈ gtbl := gw 293 (by decide +kernel) rfl
theorem k294 : (Jvm.Cond.selects "BlinkMesh$Mesh" ({ cls := "BlinkMesh$Mesh", name := "tellMesh", desc := "(I)I" } : Jvm.MethodName) ({ cls := "BlinkMesh$Mesh", name := "tellMesh", desc := "(I)I" } : Jvm.MethodName)) ∈ gtbl := gw 294 (by decide +kernel) rfl
theorem k295 : (Jvm.Cond.code ({ cls := "BlinkMesh$Mesh", name := "tellMesh", desc := "(I)I" } : Jvm.MethodName) prog_3_method_41_code (2 : Nat) (Option.some Jvm.ClassFile.FieldType.int)) ∈ gtbl := gw 295 (by decide +kernel) rfl
theorem k296 : (Jvm.Cond.methodLink "BlinkMesh$Mesh" (139 : Nat) ({ cls := "BlinkMesh$Mesh", name := "lamps", desc := "()I" } : Jvm.MethodName)) ∈ gtbl := gw 296 (by decide +kernel) rfl
theorem k297 : (Jvm.Cond.instanceMethod ({ cls := "BlinkMesh$Mesh", name := "lamps", desc := "()I" } : Jvm.MethodName)) ∈ gtbl := gw 297 (by decide +kernel) rfl
theorem k298 : (Jvm.Cond.selects "BlinkMesh$Mesh" ({ cls := "BlinkMesh$Mesh", name := "lamps", desc := "()I" } : Jvm.MethodName) ({ cls := "BlinkMesh$Mesh", name := "lamps", desc := "()I" } : Jvm.MethodName)) ∈ gtbl := gw 298 (by decide +kernel) rfl
theorem k299 : (Jvm.Cond.code ({ cls := "BlinkMesh$Mesh", name := "lamps", desc := "()I" } : Jvm.MethodName) prog_3_method_11_code (1 : Nat) (Option.some Jvm.ClassFile.FieldType.int)) ∈ gtbl := gw 299 (by decide +kernel) rfl
theorem k300 : (Jvm.Cond.methodLink "BlinkMesh$Mesh" (142 : Nat) ({ cls := "BlinkMesh$Mesh", name := "lampsOn", desc := "()I" } : Jvm.MethodName)) ∈ gtbl := gw 300 (by decide +kernel) rfl
theorem k301 : (Jvm.Cond.instanceMethod ({ cls := "BlinkMesh$Mesh", name := "lampsOn", desc := "()I" } : Jvm.MethodName)) ∈ gtbl := gw 301 (by decide +kernel) rfl
theorem k302 : (Jvm.Cond.selects "BlinkMesh$Mesh" ({ cls := "BlinkMesh$Mesh", name := "lampsOn", desc := "()I" } : Jvm.MethodName) ({ cls := "BlinkMesh$Mesh", name := "lampsOn", desc := "()I" } : Jvm.MethodName)) ∈ gtbl := gw 302 (by decide +kernel) rfl
theorem k303 : (Jvm.Cond.code ({ cls := "BlinkMesh$Mesh", name := "lampsOn", desc := "()I" } : Jvm.MethodName) prog_3_method_12_code (1 : Nat) (Option.some Jvm.ClassFile.FieldType.int)) ∈ gtbl := gw 303 (by decide +kernel) rfl
theorem k304 : (Jvm.Cond.methodLink "BlinkMesh$Mesh" (145 : Nat) ({ cls := "BlinkMesh$Mesh", name := "links", desc := "()I" } : Jvm.MethodName)) ∈ gtbl := gw 304 (by decide +kernel) rfl
theorem k305 : (Jvm.Cond.instanceMethod ({ cls := "BlinkMesh$Mesh", name := "links", desc := "()I" } : Jvm.MethodName)) ∈ gtbl := gw 305 (by decide +kernel) rfl
theorem k306 : (Jvm.Cond.selects "BlinkMesh$Mesh" ({ cls := "BlinkMesh$Mesh", name := "links", desc := "()I" } : Jvm.MethodName) ({ cls := "BlinkMesh$Mesh", name := "links", desc := "()I" } : Jvm.MethodName)) ∈ gtbl := gw 306 (by decide +kernel) rfl
theorem k307 : (Jvm.Cond.code ({ cls := "BlinkMesh$Mesh", name := "links", desc := "()I" } : Jvm.MethodName) prog_3_method_13_code (3 : Nat) (Option.some Jvm.ClassFile.FieldType.int)) ∈ gtbl := gw 307 (by decide +kernel) rfl
theorem k308 : (Jvm.Cond.methodLink "BlinkMesh$Mesh" (148 : Nat) ({ cls := "BlinkMesh$Mesh", name := "pieces", desc := "()I" } : Jvm.MethodName)) ∈ gtbl := gw 308 (by decide +kernel) rfl
theorem k309 : (Jvm.Cond.instanceMethod ({ cls := "BlinkMesh$Mesh", name := "pieces", desc := "()I" } : Jvm.MethodName)) ∈ gtbl := gw 309 (by decide +kernel) rfl
theorem k310 : (Jvm.Cond.selects "BlinkMesh$Mesh" ({ cls := "BlinkMesh$Mesh", name := "pieces", desc := "()I" } : Jvm.MethodName) ({ cls := "BlinkMesh$Mesh", name := "pieces", desc := "()I" } : Jvm.MethodName)) ∈ gtbl := gw 310 (by decide +kernel) rfl
theorem k311 : (Jvm.Cond.code ({ cls := "BlinkMesh$Mesh", name := "pieces", desc := "()I" } : Jvm.MethodName) prog_3_method_37_code (4 : Nat) (Option.some Jvm.ClassFile.FieldType.int)) ∈ gtbl := gw 311 (by decide +kernel) rfl
theorem k312 : (Jvm.Cond.methodLink "BlinkMeshLaw" (32 : Nat) ({ cls := "BlinkMeshLaw", name := "isLamp", desc := "(LBlinkMesh;I)Z" } : Jvm.MethodName)) ∈ gtbl := gw 312 (by decide +kernel) rfl
theorem k313 : (Jvm.Cond.static ({ cls := "BlinkMeshLaw", name := "isLamp", desc := "(LBlinkMesh;I)Z" } : Jvm.MethodName)) ∈ gtbl := gw 313 (by decide +kernel) rfl
theorem k314 : (Jvm.Cond.code ({ cls := "BlinkMeshLaw", name := "isLamp", desc := "(LBlinkMesh;I)Z" } : Jvm.MethodName) method_6_code (10 : Nat) (Option.some Jvm.ClassFile.FieldType.boolean)) ∈ gtbl := gw 314 rfl rfl
theorem k315 : (Jvm.Cond.methodLink "BlinkMeshLaw" (35 : Nat) ({ cls := "BlinkMesh", name := "spread", desc := "()I" } : Jvm.MethodName)) ∈ gtbl := gw 315 (by decide +kernel) rfl
theorem k316 : (Jvm.Cond.instanceMethod ({ cls := "BlinkMesh", name := "spread", desc := "()I" } : Jvm.MethodName)) ∈ gtbl := gw 316 (by decide +kernel) rfl
theorem k317 : (Jvm.Cond.selects "BlinkMesh" ({ cls := "BlinkMesh", name := "spread", desc := "()I" } : Jvm.MethodName) ({ cls := "BlinkMesh", name := "spread", desc := "()I" } : Jvm.MethodName)) ∈ gtbl := gw 317 (by decide +kernel) rfl
theorem k318 : (Jvm.Cond.code ({ cls := "BlinkMesh", name := "spread", desc := "()I" } : Jvm.MethodName) prog_1_method_20_code (1 : Nat) (Option.some Jvm.ClassFile.FieldType.int)) ∈ gtbl := gw 318 (by decide +kernel) rfl
theorem k319 : (Jvm.Cond.methodLink "BlinkMesh" (73 : Nat) ({ cls := "BlinkMesh$Mesh", name := "lampsOn", desc := "()I" } : Jvm.MethodName)) ∈ gtbl := gw 319 (by decide +kernel) rfl
theorem k320 : (Jvm.Cond.methodLink "BlinkMeshLaw" (39 : Nat) ({ cls := "BlinkMesh", name := "togetherIn", desc := "()I" } : Jvm.MethodName)) ∈ gtbl := gw 320 (by decide +kernel) rfl
theorem k321 : (Jvm.Cond.instanceMethod ({ cls := "BlinkMesh", name := "togetherIn", desc := "()I" } : Jvm.MethodName)) ∈ gtbl := gw 321 (by decide +kernel) rfl
theorem k322 : (Jvm.Cond.selects "BlinkMesh" ({ cls := "BlinkMesh", name := "togetherIn", desc := "()I" } : Jvm.MethodName) ({ cls := "BlinkMesh", name := "togetherIn", desc := "()I" } : Jvm.MethodName)) ∈ gtbl := gw 322 (by decide +kernel) rfl
theorem k323 : (Jvm.Cond.code ({ cls := "BlinkMesh", name := "togetherIn", desc := "()I" } : Jvm.MethodName) prog_1_method_18_code (1 : Nat) (Option.some Jvm.ClassFile.FieldType.int)) ∈ gtbl := gw 323 (by decide +kernel) rfl
theorem k324 : (Jvm.Cond.methodLink "BlinkMesh" (160 : Nat) ({ cls := "BlinkMesh", name := "trialTogetherIn", desc := "()I" } : Jvm.MethodName)) ∈ gtbl := gw 324 (by decide +kernel) rfl
theorem k326 : (Jvm.Cond.instanceMethod ({ cls := "BlinkMesh", name := "trialTogetherIn", desc := "()I" } : Jvm.MethodName)) ∈ gtbl := gw 326 (by decide +kernel) rfl
theorem k327 : (Jvm.Cond.code ({ cls := "BlinkMesh", name := "trialTogetherIn", desc := "()I" } : Jvm.MethodName) prog_1_method_27_code (2 : Nat) (Option.some Jvm.ClassFile.FieldType.int)) ∈ gtbl := gw 327 (by decide +kernel) rfl
theorem k328 : (Jvm.Cond.methodLink "BlinkMesh" (163 : Nat) ({ cls := "BlinkMesh$Mesh", name := "isTogether", desc := "()Z" } : Jvm.MethodName)) ∈ gtbl := gw 328 (by decide +kernel) rfl
theorem k329 : (Jvm.Cond.instanceMethod ({ cls := "BlinkMesh$Mesh", name := "isTogether", desc := "()Z" } : Jvm.MethodName)) ∈ gtbl := gw 329 (by decide +kernel) rfl
theorem k330 : (Jvm.Cond.selects "BlinkMesh$Mesh" ({ cls := "BlinkMesh$Mesh", name := "isTogether", desc := "()Z" } : Jvm.MethodName) ({ cls := "BlinkMesh$Mesh", name := "isTogether", desc := "()Z" } : Jvm.MethodName)) ∈ gtbl := gw 330 (by decide +kernel) rfl
theorem k331 : (Jvm.Cond.code ({ cls := "BlinkMesh$Mesh", name := "isTogether", desc := "()Z" } : Jvm.MethodName) prog_3_method_33_code (3 : Nat) (Option.some Jvm.ClassFile.FieldType.boolean)) ∈ gtbl := gw 331 (by decide +kernel) rfl
theorem k332 : (Jvm.Cond.methodLink "BlinkMesh" (157 : Nat) ({ cls := "BlinkMesh$Mesh", name := "tickOnce", desc := "()I" } : Jvm.MethodName)) ∈ gtbl := gw 332 (by decide +kernel) rfl
theorem k333 : (Jvm.Cond.methodLink "BlinkMeshLaw" (42 : Nat) ({ cls := "BlinkMesh", name := "next", desc := "(I)I" } : Jvm.MethodName)) ∈ gtbl := gw 333 (by decide +kernel) rfl
theorem k334 : (Jvm.Cond.instanceMethod ({ cls := "BlinkMesh", name := "next", desc := "(I)I" } : Jvm.MethodName)) ∈ gtbl := gw 334 (by decide +kernel) rfl
theorem k335 : (Jvm.Cond.selects "BlinkMesh" ({ cls := "BlinkMesh", name := "next", desc := "(I)I" } : Jvm.MethodName) ({ cls := "BlinkMesh", name := "next", desc := "(I)I" } : Jvm.MethodName)) ∈ gtbl := gw 335 (by decide +kernel) rfl
theorem k336 : (Jvm.Cond.code ({ cls := "BlinkMesh", name := "next", desc := "(I)I" } : Jvm.MethodName) prog_1_method_17_code (4 : Nat) (Option.some Jvm.ClassFile.FieldType.int)) ∈ gtbl := gw 336 (by decide +kernel) rfl
theorem k337 : (Jvm.Cond.methodLink "BlinkMeshLaw" (45 : Nat) ({ cls := "BlinkMesh", name := "reason", desc := "()I" } : Jvm.MethodName)) ∈ gtbl := gw 337 (by decide +kernel) rfl
theorem k338 : (Jvm.Cond.instanceMethod ({ cls := "BlinkMesh", name := "reason", desc := "()I" } : Jvm.MethodName)) ∈ gtbl := gw 338 (by decide +kernel) rfl
theorem k339 : (Jvm.Cond.selects "BlinkMesh" ({ cls := "BlinkMesh", name := "reason", desc := "()I" } : Jvm.MethodName) ({ cls := "BlinkMesh", name := "reason", desc := "()I" } : Jvm.MethodName)) ∈ gtbl := gw 339 (by decide +kernel) rfl
theorem k340 : (Jvm.Cond.code ({ cls := "BlinkMesh", name := "reason", desc := "()I" } : Jvm.MethodName) prog_1_method_19_code (1 : Nat) (Option.some Jvm.ClassFile.FieldType.int)) ∈ gtbl := gw 340 (by decide +kernel) rfl
theorem k341 : (Jvm.Cond.methodLink "BlinkMesh" (166 : Nat) ({ cls := "BlinkMesh$Mesh", name := "pieces", desc := "()I" } : Jvm.MethodName)) ∈ gtbl := gw 341 (by decide +kernel) rfl
theorem k342 : (Jvm.Cond.methodLink "BlinkMesh" (169 : Nat) ({ cls := "BlinkMesh$Mesh", name := "hasUnlikeRates", desc := "()Z" } : Jvm.MethodName)) ∈ gtbl := gw 342 (by decide +kernel) rfl
theorem k343 : (Jvm.Cond.instanceMethod ({ cls := "BlinkMesh$Mesh", name := "hasUnlikeRates", desc := "()Z" } : Jvm.MethodName)) ∈ gtbl := gw 343 (by decide +kernel) rfl
theorem k344 : (Jvm.Cond.selects "BlinkMesh$Mesh" ({ cls := "BlinkMesh$Mesh", name := "hasUnlikeRates", desc := "()Z" } : Jvm.MethodName) ({ cls := "BlinkMesh$Mesh", name := "hasUnlikeRates", desc := "()Z" } : Jvm.MethodName)) ∈ gtbl := gw 344 (by decide +kernel) rfl
theorem k345 : (Jvm.Cond.code ({ cls := "BlinkMesh$Mesh", name := "hasUnlikeRates", desc := "()Z" } : Jvm.MethodName) prog_3_method_34_code (3 : Nat) (Option.some Jvm.ClassFile.FieldType.boolean)) ∈ gtbl := gw 345 (by decide +kernel) rfl
theorem k346 : (Jvm.Cond.methodLink "BlinkMesh" (98 : Nat) ({ cls := "BlinkMesh$Mesh", name := "setting", desc := "(I)I" } : Jvm.MethodName)) ∈ gtbl := gw 346 (by decide +kernel) rfl
theorem k347 : (Jvm.Cond.instanceMethod ({ cls := "BlinkMesh$Mesh", name := "setting", desc := "(I)I" } : Jvm.MethodName)) ∈ gtbl := gw 347 (by decide +kernel) rfl
theorem k348 : (Jvm.Cond.selects "BlinkMesh$Mesh" ({ cls := "BlinkMesh$Mesh", name := "setting", desc := "(I)I" } : Jvm.MethodName) ({ cls := "BlinkMesh$Mesh", name := "setting", desc := "(I)I" } : Jvm.MethodName)) ∈ gtbl := gw 348 (by decide +kernel) rfl
theorem k349 : (Jvm.Cond.code ({ cls := "BlinkMesh$Mesh", name := "setting", desc := "(I)I" } : Jvm.MethodName) prog_3_method_8_code (2 : Nat) (Option.some Jvm.ClassFile.FieldType.int)) ∈ gtbl := gw 349 (by decide +kernel) rfl
theorem k350 : (Jvm.Cond.methodLink "BlinkMeshLaw" (103 : Nat) ({ cls := "BlinkMeshLaw", name := "nextSo", desc := "(LBlinkMesh;)Z" } : Jvm.MethodName)) ∈ gtbl := gw 350 (by decide +kernel) rfl
theorem k351 : (Jvm.Cond.static ({ cls := "BlinkMeshLaw", name := "nextSo", desc := "(LBlinkMesh;)Z" } : Jvm.MethodName)) ∈ gtbl := gw 351 (by decide +kernel) rfl
theorem k352 : (Jvm.Cond.code ({ cls := "BlinkMeshLaw", name := "nextSo", desc := "(LBlinkMesh;)Z" } : Jvm.MethodName) method_9_code (8 : Nat) (Option.some Jvm.ClassFile.FieldType.boolean)) ∈ gtbl := gw 352 rfl rfl
theorem k353 : (Jvm.Cond.methodLink "BlinkMeshLaw" (52 : Nat) ({ cls := "BlinkMesh", name := "pass", desc := "(I)I" } : Jvm.MethodName)) ∈ gtbl := gw 353 (by decide +kernel) rfl
theorem k354 : (Jvm.Cond.instanceMethod ({ cls := "BlinkMesh", name := "pass", desc := "(I)I" } : Jvm.MethodName)) ∈ gtbl := gw 354 (by decide +kernel) rfl
theorem k355 : (Jvm.Cond.selects "BlinkMesh" ({ cls := "BlinkMesh", name := "pass", desc := "(I)I" } : Jvm.MethodName) ({ cls := "BlinkMesh", name := "pass", desc := "(I)I" } : Jvm.MethodName)) ∈ gtbl := gw 355 (by decide +kernel) rfl
theorem k356 : (Jvm.Cond.code ({ cls := "BlinkMesh", name := "pass", desc := "(I)I" } : Jvm.MethodName) prog_1_method_8_code (3 : Nat) (Option.some Jvm.ClassFile.FieldType.int)) ∈ gtbl := gw 356 (by decide +kernel) rfl
theorem k357 : (Jvm.Cond.methodLink "BlinkMesh" (105 : Nat) ({ cls := "BlinkMesh$Mesh", name := "tickNumber", desc := "()I" } : Jvm.MethodName)) ∈ gtbl := gw 357 (by decide +kernel) rfl
theorem k358 : (Jvm.Cond.instanceMethod ({ cls := "BlinkMesh$Mesh", name := "tickNumber", desc := "()I" } : Jvm.MethodName)) ∈ gtbl := gw 358 (by decide +kernel) rfl
theorem k359 : (Jvm.Cond.selects "BlinkMesh$Mesh" ({ cls := "BlinkMesh$Mesh", name := "tickNumber", desc := "()I" } : Jvm.MethodName) ({ cls := "BlinkMesh$Mesh", name := "tickNumber", desc := "()I" } : Jvm.MethodName)) ∈ gtbl := gw 359 (by decide +kernel) rfl
theorem k360 : (Jvm.Cond.code ({ cls := "BlinkMesh$Mesh", name := "tickNumber", desc := "()I" } : Jvm.MethodName) prog_3_method_9_code (1 : Nat) (Option.some Jvm.ClassFile.FieldType.int)) ∈ gtbl := gw 360 (by decide +kernel) rfl
theorem k361 : (Jvm.Cond.constant "BlinkMesh" (108 : Nat) (99999 : Int32)) ∈ gtbl := gw 361 (by decide +kernel) rfl
theorem k362 : (Jvm.Cond.methodLink "BlinkMesh" (51 : Nat) ({ cls := "BlinkMesh$History", name := "remember", desc := "(LBlinkMesh$Mesh;)V" } : Jvm.MethodName)) ∈ gtbl := gw 362 (by decide +kernel) rfl
theorem k363 : (Jvm.Cond.instanceMethod ({ cls := "BlinkMesh$History", name := "remember", desc := "(LBlinkMesh$Mesh;)V" } : Jvm.MethodName)) ∈ gtbl := gw 363 (by decide +kernel) rfl
theorem k364 : (Jvm.Cond.selects "BlinkMesh$History" ({ cls := "BlinkMesh$History", name := "remember", desc := "(LBlinkMesh$Mesh;)V" } : Jvm.MethodName) ({ cls := "BlinkMesh$History", name := "remember", desc := "(LBlinkMesh$Mesh;)V" } : Jvm.MethodName)) ∈ gtbl := gw 364 (by decide +kernel) rfl
theorem k365 : (Jvm.Cond.code ({ cls := "BlinkMesh$History", name := "remember", desc := "(LBlinkMesh$Mesh;)V" } : Jvm.MethodName) prog_2_method_3_code (2 : Nat) (Option.none : Option Jvm.ClassFile.FieldType)) ∈ gtbl := gw 365 (by decide +kernel) rfl
theorem k366 : (Jvm.Cond.methodLink "BlinkMesh$History" (22 : Nat) ({ cls := "BlinkMesh$History", name := "dropOldest", desc := "()V" } : Jvm.MethodName)) ∈ gtbl := gw 366 (by decide +kernel) rfl
theorem k368 : (Jvm.Cond.instanceMethod ({ cls := "BlinkMesh$History", name := "dropOldest", desc := "()V" } : Jvm.MethodName)) ∈ gtbl := gw 368 (by decide +kernel) rfl
theorem k369 : (Jvm.Cond.code ({ cls := "BlinkMesh$History", name := "dropOldest", desc := "()V" } : Jvm.MethodName) prog_2_method_4_code (3 : Nat) (Option.none : Option Jvm.ClassFile.FieldType)) ∈ gtbl := gw 369 (by decide +kernel) rfl
theorem k370 : (Jvm.Cond.methodLink "BlinkMesh$History" (25 : Nat) ({ cls := "BlinkMesh$Mesh", name := "copyFrom", desc := "(LBlinkMesh$Mesh;)V" } : Jvm.MethodName)) ∈ gtbl := gw 370 (by decide +kernel) rfl
theorem k371 : (Jvm.Cond.methodLink "BlinkMesh" (109 : Nat) ({ cls := "BlinkMesh$Mesh", name := "allBlinks", desc := "()I" } : Jvm.MethodName)) ∈ gtbl := gw 371 (by decide +kernel) rfl
theorem k372 : (Jvm.Cond.instanceMethod ({ cls := "BlinkMesh$Mesh", name := "allBlinks", desc := "()I" } : Jvm.MethodName)) ∈ gtbl := gw 372 (by decide +kernel) rfl
theorem k373 : (Jvm.Cond.selects "BlinkMesh$Mesh" ({ cls := "BlinkMesh$Mesh", name := "allBlinks", desc := "()I" } : Jvm.MethodName) ({ cls := "BlinkMesh$Mesh", name := "allBlinks", desc := "()I" } : Jvm.MethodName)) ∈ gtbl := gw 373 (by decide +kernel) rfl
theorem k374 : (Jvm.Cond.code ({ cls := "BlinkMesh$Mesh", name := "allBlinks", desc := "()I" } : Jvm.MethodName) prog_3_method_10_code (1 : Nat) (Option.some Jvm.ClassFile.FieldType.int)) ∈ gtbl := gw 374 (by decide +kernel) rfl
theorem k375 : (Jvm.Cond.methodLink "BlinkMeshLaw" (55 : Nat) ({ cls := "BlinkMesh", name := "undo", desc := "()I" } : Jvm.MethodName)) ∈ gtbl := gw 375 (by decide +kernel) rfl
theorem k376 : (Jvm.Cond.instanceMethod ({ cls := "BlinkMesh", name := "undo", desc := "()I" } : Jvm.MethodName)) ∈ gtbl := gw 376 (by decide +kernel) rfl
theorem k377 : (Jvm.Cond.selects "BlinkMesh" ({ cls := "BlinkMesh", name := "undo", desc := "()I" } : Jvm.MethodName) ({ cls := "BlinkMesh", name := "undo", desc := "()I" } : Jvm.MethodName)) ∈ gtbl := gw 377 (by decide +kernel) rfl
theorem k378 : (Jvm.Cond.code ({ cls := "BlinkMesh", name := "undo", desc := "()I" } : Jvm.MethodName) prog_1_method_12_code (1 : Nat) (Option.some Jvm.ClassFile.FieldType.int)) ∈ gtbl := gw 378 (by decide +kernel) rfl
theorem k379 : (Jvm.Cond.methodLink "BlinkMesh" (145 : Nat) ({ cls := "BlinkMesh$History", name := "takeBack", desc := "(LBlinkMesh$Mesh;)V" } : Jvm.MethodName)) ∈ gtbl := gw 379 (by decide +kernel) rfl
theorem k380 : (Jvm.Cond.instanceMethod ({ cls := "BlinkMesh$History", name := "takeBack", desc := "(LBlinkMesh$Mesh;)V" } : Jvm.MethodName)) ∈ gtbl := gw 380 (by decide +kernel) rfl
theorem k381 : (Jvm.Cond.selects "BlinkMesh$History" ({ cls := "BlinkMesh$History", name := "takeBack", desc := "(LBlinkMesh$Mesh;)V" } : Jvm.MethodName) ({ cls := "BlinkMesh$History", name := "takeBack", desc := "(LBlinkMesh$Mesh;)V" } : Jvm.MethodName)) ∈ gtbl := gw 381 (by decide +kernel) rfl
theorem k382 : (Jvm.Cond.code ({ cls := "BlinkMesh$History", name := "takeBack", desc := "(LBlinkMesh$Mesh;)V" } : Jvm.MethodName) prog_2_method_5_code (2 : Nat) (Option.none : Option Jvm.ClassFile.FieldType)) ∈ gtbl := gw 382 (by decide +kernel) rfl
theorem k383 : (Jvm.Cond.methodLink "BlinkMeshLaw" (99 : Nat) ({ cls := "BlinkMeshLaw", name := "togetherSo", desc := "(LBlinkMesh;)Z" } : Jvm.MethodName)) ∈ gtbl := gw 383 (by decide +kernel) rfl
theorem k384 : (Jvm.Cond.static ({ cls := "BlinkMeshLaw", name := "togetherSo", desc := "(LBlinkMesh;)Z" } : Jvm.MethodName)) ∈ gtbl := gw 384 (by decide +kernel) rfl
theorem k385 : (Jvm.Cond.code ({ cls := "BlinkMeshLaw", name := "togetherSo", desc := "(LBlinkMesh;)Z" } : Jvm.MethodName) method_10_code (3 : Nat) (Option.some Jvm.ClassFile.FieldType.boolean)) ∈ gtbl := gw 385 rfl rfl
theorem k386 : (Jvm.Cond.methodLink "BlinkMeshLaw" (123 : Nat) ({ cls := "BlinkMeshLaw", name := "act", desc := "(LBlinkMesh;II)Z" } : Jvm.MethodName)) ∈ gtbl := gw 386 (by decide +kernel) rfl
theorem k387 : (Jvm.Cond.static ({ cls := "BlinkMeshLaw", name := "act", desc := "(LBlinkMesh;II)Z" } : Jvm.MethodName)) ∈ gtbl := gw 387 (by decide +kernel) rfl
theorem k388 : (Jvm.Cond.code ({ cls := "BlinkMeshLaw", name := "act", desc := "(LBlinkMesh;II)Z" } : Jvm.MethodName) method_15_code (9 : Nat) (Option.some Jvm.ClassFile.FieldType.boolean)) ∈ gtbl := gw 388 rfl rfl
theorem k389 : (Jvm.Cond.methodLink "BlinkMeshLaw" (72 : Nat) ({ cls := "BlinkMeshLaw", name := "low", desc := "(II)I" } : Jvm.MethodName)) ∈ gtbl := gw 389 (by decide +kernel) rfl
theorem k390 : (Jvm.Cond.static ({ cls := "BlinkMeshLaw", name := "low", desc := "(II)I" } : Jvm.MethodName)) ∈ gtbl := gw 390 (by decide +kernel) rfl
theorem k391 : (Jvm.Cond.code ({ cls := "BlinkMeshLaw", name := "low", desc := "(II)I" } : Jvm.MethodName) method_3_code (2 : Nat) (Option.some Jvm.ClassFile.FieldType.int)) ∈ gtbl := gw 391 rfl rfl
theorem k392 : (Jvm.Cond.constant "BlinkMeshLaw" (9 : Nat) (2147483647 : Int32)) ∈ gtbl := gw 392 (by decide +kernel) rfl
theorem k393 : (Jvm.Cond.methodLink "BlinkMeshLaw" (75 : Nat) ({ cls := "BlinkMesh", name := "come", desc := "(II)I" } : Jvm.MethodName)) ∈ gtbl := gw 393 (by decide +kernel) rfl
theorem k394 : (Jvm.Cond.instanceMethod ({ cls := "BlinkMesh", name := "come", desc := "(II)I" } : Jvm.MethodName)) ∈ gtbl := gw 394 (by decide +kernel) rfl
theorem k395 : (Jvm.Cond.selects "BlinkMesh" ({ cls := "BlinkMesh", name := "come", desc := "(II)I" } : Jvm.MethodName) ({ cls := "BlinkMesh", name := "come", desc := "(II)I" } : Jvm.MethodName)) ∈ gtbl := gw 395 (by decide +kernel) rfl
theorem k396 : (Jvm.Cond.code ({ cls := "BlinkMesh", name := "come", desc := "(II)I" } : Jvm.MethodName) prog_1_method_2_code (4 : Nat) (Option.some Jvm.ClassFile.FieldType.int)) ∈ gtbl := gw 396 (by decide +kernel) rfl
theorem k397 : (Jvm.Cond.methodLink "BlinkMesh" (40 : Nat) ({ cls := "BlinkMesh$Mesh", name := "isWholePhase", desc := "(I)Z" } : Jvm.MethodName)) ∈ gtbl := gw 397 (by decide +kernel) rfl
theorem k398 : (Jvm.Cond.instanceMethod ({ cls := "BlinkMesh$Mesh", name := "isWholePhase", desc := "(I)Z" } : Jvm.MethodName)) ∈ gtbl := gw 398 (by decide +kernel) rfl
theorem k399 : (Jvm.Cond.selects "BlinkMesh$Mesh" ({ cls := "BlinkMesh$Mesh", name := "isWholePhase", desc := "(I)Z" } : Jvm.MethodName) ({ cls := "BlinkMesh$Mesh", name := "isWholePhase", desc := "(I)Z" } : Jvm.MethodName)) ∈ gtbl := gw 399 (by decide +kernel) rfl
theorem k400 : (Jvm.Cond.code ({ cls := "BlinkMesh$Mesh", name := "isWholePhase", desc := "(I)Z" } : Jvm.MethodName) prog_3_method_7_code (2 : Nat) (Option.some Jvm.ClassFile.FieldType.boolean)) ∈ gtbl := gw 400 (by decide +kernel) rfl
theorem k401 : (Jvm.Cond.methodLink "BlinkMesh" (44 : Nat) ({ cls := "BlinkMesh", name := "isRate", desc := "(I)Z" } : Jvm.MethodName)) ∈ gtbl := gw 401 (by decide +kernel) rfl
theorem k402 : (Jvm.Cond.static ({ cls := "BlinkMesh", name := "isRate", desc := "(I)Z" } : Jvm.MethodName)) ∈ gtbl := gw 402 (by decide +kernel) rfl
theorem k403 : (Jvm.Cond.code ({ cls := "BlinkMesh", name := "isRate", desc := "(I)Z" } : Jvm.MethodName) prog_1_method_25_code (1 : Nat) (Option.some Jvm.ClassFile.FieldType.boolean)) ∈ gtbl := gw 403 (by decide +kernel) rfl
theorem k404 : (Jvm.Cond.methodLink "BlinkMesh" (47 : Nat) ({ cls := "BlinkMesh$Mesh", name := "freeNumber", desc := "()I" } : Jvm.MethodName)) ∈ gtbl := gw 404 (by decide +kernel) rfl
theorem k405 : (Jvm.Cond.instanceMethod ({ cls := "BlinkMesh$Mesh", name := "freeNumber", desc := "()I" } : Jvm.MethodName)) ∈ gtbl := gw 405 (by decide +kernel) rfl
theorem k406 : (Jvm.Cond.selects "BlinkMesh$Mesh" ({ cls := "BlinkMesh$Mesh", name := "freeNumber", desc := "()I" } : Jvm.MethodName) ({ cls := "BlinkMesh$Mesh", name := "freeNumber", desc := "()I" } : Jvm.MethodName)) ∈ gtbl := gw 406 (by decide +kernel) rfl
theorem k407 : (Jvm.Cond.code ({ cls := "BlinkMesh$Mesh", name := "freeNumber", desc := "()I" } : Jvm.MethodName) prog_3_method_14_code (2 : Nat) (Option.some Jvm.ClassFile.FieldType.int)) ∈ gtbl := gw 407 (by decide +kernel) rfl
theorem k408 : (Jvm.Cond.methodLink "BlinkMesh" (55 : Nat) ({ cls := "BlinkMesh$Mesh", name := "place", desc := "(III)V" } : Jvm.MethodName)) ∈ gtbl := gw 408 (by decide +kernel) rfl
theorem k409 : (Jvm.Cond.instanceMethod ({ cls := "BlinkMesh$Mesh", name := "place", desc := "(III)V" } : Jvm.MethodName)) ∈ gtbl := gw 409 (by decide +kernel) rfl
theorem k410 : (Jvm.Cond.selects "BlinkMesh$Mesh" ({ cls := "BlinkMesh$Mesh", name := "place", desc := "(III)V" } : Jvm.MethodName) ({ cls := "BlinkMesh$Mesh", name := "place", desc := "(III)V" } : Jvm.MethodName)) ∈ gtbl := gw 410 (by decide +kernel) rfl
theorem k411 : (Jvm.Cond.code ({ cls := "BlinkMesh$Mesh", name := "place", desc := "(III)V" } : Jvm.MethodName) prog_3_method_15_code (4 : Nat) (Option.none : Option Jvm.ClassFile.FieldType)) ∈ gtbl := gw 411 (by decide +kernel) rfl
theorem k412 : (Jvm.Cond.methodLink "BlinkMeshLaw" (68 : Nat) ({ cls := "BlinkMeshLaw", name := "tale", desc := "(LBlinkMesh;)J" } : Jvm.MethodName)) ∈ gtbl := gw 412 (by decide +kernel) rfl
theorem k413 : (Jvm.Cond.static ({ cls := "BlinkMeshLaw", name := "tale", desc := "(LBlinkMesh;)J" } : Jvm.MethodName)) ∈ gtbl := gw 413 (by decide +kernel) rfl
theorem k414 : (Jvm.Cond.code ({ cls := "BlinkMeshLaw", name := "tale", desc := "(LBlinkMesh;)J" } : Jvm.MethodName) method_8_code (4 : Nat) (Option.some Jvm.ClassFile.FieldType.long)) ∈ gtbl := gw 414 rfl rfl
theorem k415 : (Jvm.Cond.constantLong "BlinkMeshLaw" (48 : Nat) (7 : Int64)) ∈ gtbl := gw 415 (by decide +kernel) rfl
theorem k416 : (Jvm.Cond.constantLong "BlinkMeshLaw" (50 : Nat) (31 : Int64)) ∈ gtbl := gw 416 (by decide +kernel) rfl
theorem k417 : (Jvm.Cond.methodLink "BlinkMeshLaw" (78 : Nat) ({ cls := "BlinkMesh", name := "goAway", desc := "(I)I" } : Jvm.MethodName)) ∈ gtbl := gw 417 (by decide +kernel) rfl
theorem k418 : (Jvm.Cond.instanceMethod ({ cls := "BlinkMesh", name := "goAway", desc := "(I)I" } : Jvm.MethodName)) ∈ gtbl := gw 418 (by decide +kernel) rfl
theorem k419 : (Jvm.Cond.selects "BlinkMesh" ({ cls := "BlinkMesh", name := "goAway", desc := "(I)I" } : Jvm.MethodName) ({ cls := "BlinkMesh", name := "goAway", desc := "(I)I" } : Jvm.MethodName)) ∈ gtbl := gw 419 (by decide +kernel) rfl
theorem k420 : (Jvm.Cond.code ({ cls := "BlinkMesh", name := "goAway", desc := "(I)I" } : Jvm.MethodName) prog_1_method_3_code (2 : Nat) (Option.some Jvm.ClassFile.FieldType.int)) ∈ gtbl := gw 420 (by decide +kernel) rfl
theorem k421 : (Jvm.Cond.methodLink "BlinkMesh" (62 : Nat) ({ cls := "BlinkMesh$Mesh", name := "remove", desc := "(I)I" } : Jvm.MethodName)) ∈ gtbl := gw 421 (by decide +kernel) rfl
theorem k422 : (Jvm.Cond.instanceMethod ({ cls := "BlinkMesh$Mesh", name := "remove", desc := "(I)I" } : Jvm.MethodName)) ∈ gtbl := gw 422 (by decide +kernel) rfl
theorem k423 : (Jvm.Cond.selects "BlinkMesh$Mesh" ({ cls := "BlinkMesh$Mesh", name := "remove", desc := "(I)I" } : Jvm.MethodName) ({ cls := "BlinkMesh$Mesh", name := "remove", desc := "(I)I" } : Jvm.MethodName)) ∈ gtbl := gw 423 (by decide +kernel) rfl
theorem k424 : (Jvm.Cond.code ({ cls := "BlinkMesh$Mesh", name := "remove", desc := "(I)I" } : Jvm.MethodName) prog_3_method_16_code (5 : Nat) (Option.some Jvm.ClassFile.FieldType.int)) ∈ gtbl := gw 424 (by decide +kernel) rfl
theorem k425 : (Jvm.Cond.methodLink "BlinkMeshLaw" (81 : Nat) ({ cls := "BlinkMesh", name := "turn", desc := "(IZ)I" } : Jvm.MethodName)) ∈ gtbl := gw 425 (by decide +kernel) rfl
theorem k426 : (Jvm.Cond.instanceMethod ({ cls := "BlinkMesh", name := "turn", desc := "(IZ)I" } : Jvm.MethodName)) ∈ gtbl := gw 426 (by decide +kernel) rfl
theorem k427 : (Jvm.Cond.selects "BlinkMesh" ({ cls := "BlinkMesh", name := "turn", desc := "(IZ)I" } : Jvm.MethodName) ({ cls := "BlinkMesh", name := "turn", desc := "(IZ)I" } : Jvm.MethodName)) ∈ gtbl := gw 427 (by decide +kernel) rfl
theorem k428 : (Jvm.Cond.code ({ cls := "BlinkMesh", name := "turn", desc := "(IZ)I" } : Jvm.MethodName) prog_1_method_4_code (3 : Nat) (Option.some Jvm.ClassFile.FieldType.int)) ∈ gtbl := gw 428 (by decide +kernel) rfl
theorem k429 : (Jvm.Cond.methodLink "BlinkMesh" (66 : Nat) ({ cls := "BlinkMesh$Mesh", name := "isOn", desc := "(I)Z" } : Jvm.MethodName)) ∈ gtbl := gw 429 (by decide +kernel) rfl
theorem k430 : (Jvm.Cond.methodLink "BlinkMesh" (69 : Nat) ({ cls := "BlinkMesh$Mesh", name := "switchTo", desc := "(IZ)V" } : Jvm.MethodName)) ∈ gtbl := gw 430 (by decide +kernel) rfl
theorem k431 : (Jvm.Cond.instanceMethod ({ cls := "BlinkMesh$Mesh", name := "switchTo", desc := "(IZ)V" } : Jvm.MethodName)) ∈ gtbl := gw 431 (by decide +kernel) rfl
theorem k432 : (Jvm.Cond.selects "BlinkMesh$Mesh" ({ cls := "BlinkMesh$Mesh", name := "switchTo", desc := "(IZ)V" } : Jvm.MethodName) ({ cls := "BlinkMesh$Mesh", name := "switchTo", desc := "(IZ)V" } : Jvm.MethodName)) ∈ gtbl := gw 432 (by decide +kernel) rfl
theorem k433 : (Jvm.Cond.code ({ cls := "BlinkMesh$Mesh", name := "switchTo", desc := "(IZ)V" } : Jvm.MethodName) prog_3_method_18_code (3 : Nat) (Option.none : Option Jvm.ClassFile.FieldType)) ∈ gtbl := gw 433 (by decide +kernel) rfl
theorem k434 : (Jvm.Cond.methodLink "BlinkMeshLaw" (85 : Nat) ({ cls := "BlinkMeshLaw", name := "linkedSo", desc := "(LBlinkMesh;II)Z" } : Jvm.MethodName)) ∈ gtbl := gw 434 (by decide +kernel) rfl
theorem k435 : (Jvm.Cond.static ({ cls := "BlinkMeshLaw", name := "linkedSo", desc := "(LBlinkMesh;II)Z" } : Jvm.MethodName)) ∈ gtbl := gw 435 (by decide +kernel) rfl
theorem k436 : (Jvm.Cond.code ({ cls := "BlinkMeshLaw", name := "linkedSo", desc := "(LBlinkMesh;II)Z" } : Jvm.MethodName) method_11_code (6 : Nat) (Option.some Jvm.ClassFile.FieldType.boolean)) ∈ gtbl := gw 436 rfl rfl
theorem k437 : (Jvm.Cond.methodLink "BlinkMeshLaw" (58 : Nat) ({ cls := "BlinkMesh", name := "ifLinked", desc := "(II)I" } : Jvm.MethodName)) ∈ gtbl := gw 437 (by decide +kernel) rfl
theorem k438 : (Jvm.Cond.instanceMethod ({ cls := "BlinkMesh", name := "ifLinked", desc := "(II)I" } : Jvm.MethodName)) ∈ gtbl := gw 438 (by decide +kernel) rfl
theorem k439 : (Jvm.Cond.selects "BlinkMesh" ({ cls := "BlinkMesh", name := "ifLinked", desc := "(II)I" } : Jvm.MethodName) ({ cls := "BlinkMesh", name := "ifLinked", desc := "(II)I" } : Jvm.MethodName)) ∈ gtbl := gw 439 (by decide +kernel) rfl
theorem k440 : (Jvm.Cond.code ({ cls := "BlinkMesh", name := "ifLinked", desc := "(II)I" } : Jvm.MethodName) prog_1_method_21_code (3 : Nat) (Option.some Jvm.ClassFile.FieldType.int)) ∈ gtbl := gw 440 (by decide +kernel) rfl
theorem k441 : (Jvm.Cond.methodLink "BlinkMesh" (76 : Nat) ({ cls := "BlinkMesh$Mesh", name := "isLinked", desc := "(II)Z" } : Jvm.MethodName)) ∈ gtbl := gw 441 (by decide +kernel) rfl
theorem k442 : (Jvm.Cond.methodLink "BlinkMeshLaw" (61 : Nat) ({ cls := "BlinkMesh", name := "link", desc := "(IIZ)I" } : Jvm.MethodName)) ∈ gtbl := gw 442 (by decide +kernel) rfl
theorem k443 : (Jvm.Cond.instanceMethod ({ cls := "BlinkMesh", name := "link", desc := "(IIZ)I" } : Jvm.MethodName)) ∈ gtbl := gw 443 (by decide +kernel) rfl
theorem k444 : (Jvm.Cond.selects "BlinkMesh" ({ cls := "BlinkMesh", name := "link", desc := "(IIZ)I" } : Jvm.MethodName) ({ cls := "BlinkMesh", name := "link", desc := "(IIZ)I" } : Jvm.MethodName)) ∈ gtbl := gw 444 (by decide +kernel) rfl
theorem k445 : (Jvm.Cond.code ({ cls := "BlinkMesh", name := "link", desc := "(IIZ)I" } : Jvm.MethodName) prog_1_method_5_code (4 : Nat) (Option.some Jvm.ClassFile.FieldType.int)) ∈ gtbl := gw 445 (by decide +kernel) rfl
theorem k446 : (Jvm.Cond.methodLink "BlinkMesh" (84 : Nat) ({ cls := "BlinkMesh$Mesh", name := "links", desc := "()I" } : Jvm.MethodName)) ∈ gtbl := gw 446 (by decide +kernel) rfl
theorem k447 : (Jvm.Cond.methodLink "BlinkMeshLaw" (89 : Nat) ({ cls := "BlinkMesh", name := "tune", desc := "(III)I" } : Jvm.MethodName)) ∈ gtbl := gw 447 (by decide +kernel) rfl
theorem k448 : (Jvm.Cond.instanceMethod ({ cls := "BlinkMesh", name := "tune", desc := "(III)I" } : Jvm.MethodName)) ∈ gtbl := gw 448 (by decide +kernel) rfl
theorem k449 : (Jvm.Cond.selects "BlinkMesh" ({ cls := "BlinkMesh", name := "tune", desc := "(III)I" } : Jvm.MethodName) ({ cls := "BlinkMesh", name := "tune", desc := "(III)I" } : Jvm.MethodName)) ∈ gtbl := gw 449 (by decide +kernel) rfl
theorem k450 : (Jvm.Cond.code ({ cls := "BlinkMesh", name := "tune", desc := "(III)I" } : Jvm.MethodName) prog_1_method_6_code (4 : Nat) (Option.some Jvm.ClassFile.FieldType.int)) ∈ gtbl := gw 450 (by decide +kernel) rfl
theorem k451 : (Jvm.Cond.methodLink "BlinkMesh" (87 : Nat) ({ cls := "BlinkMesh$Mesh", name := "retune", desc := "(III)I" } : Jvm.MethodName)) ∈ gtbl := gw 451 (by decide +kernel) rfl
theorem k452 : (Jvm.Cond.instanceMethod ({ cls := "BlinkMesh$Mesh", name := "retune", desc := "(III)I" } : Jvm.MethodName)) ∈ gtbl := gw 452 (by decide +kernel) rfl
theorem k453 : (Jvm.Cond.selects "BlinkMesh$Mesh" ({ cls := "BlinkMesh$Mesh", name := "retune", desc := "(III)I" } : Jvm.MethodName) ({ cls := "BlinkMesh$Mesh", name := "retune", desc := "(III)I" } : Jvm.MethodName)) ∈ gtbl := gw 453 (by decide +kernel) rfl
theorem k454 : (Jvm.Cond.code ({ cls := "BlinkMesh$Mesh", name := "retune", desc := "(III)I" } : Jvm.MethodName) prog_3_method_20_code (5 : Nat) (Option.some Jvm.ClassFile.FieldType.int)) ∈ gtbl := gw 454 (by decide +kernel) rfl
theorem k455 : (Jvm.Cond.methodLink "BlinkMeshLaw" (93 : Nat) ({ cls := "BlinkMesh", name := "set", desc := "(II)I" } : Jvm.MethodName)) ∈ gtbl := gw 455 (by decide +kernel) rfl
theorem k456 : (Jvm.Cond.instanceMethod ({ cls := "BlinkMesh", name := "set", desc := "(II)I" } : Jvm.MethodName)) ∈ gtbl := gw 456 (by decide +kernel) rfl
theorem k457 : (Jvm.Cond.selects "BlinkMesh" ({ cls := "BlinkMesh", name := "set", desc := "(II)I" } : Jvm.MethodName) ({ cls := "BlinkMesh", name := "set", desc := "(II)I" } : Jvm.MethodName)) ∈ gtbl := gw 457 (by decide +kernel) rfl
theorem k458 : (Jvm.Cond.code ({ cls := "BlinkMesh", name := "set", desc := "(II)I" } : Jvm.MethodName) prog_1_method_7_code (3 : Nat) (Option.some Jvm.ClassFile.FieldType.int)) ∈ gtbl := gw 458 (by decide +kernel) rfl
theorem k459 : (Jvm.Cond.fieldLink "BlinkMesh" (91 : Nat) "BlinkMesh" "LEAST_SETTING" "[I") ∈ gtbl := gw 459 (by decide +kernel) rfl
theorem k461 : (Jvm.Cond.fieldLink "BlinkMesh" (95 : Nat) "BlinkMesh" "GREATEST_SETTING" "[I") ∈ gtbl := gw 461 (by decide +kernel) rfl
theorem k463 : (Jvm.Cond.methodLink "BlinkMesh" (101 : Nat) ({ cls := "BlinkMesh$Mesh", name := "changeSetting", desc := "(II)I" } : Jvm.MethodName)) ∈ gtbl := gw 463 (by decide +kernel) rfl
theorem k464 : (Jvm.Cond.instanceMethod ({ cls := "BlinkMesh$Mesh", name := "changeSetting", desc := "(II)I" } : Jvm.MethodName)) ∈ gtbl := gw 464 (by decide +kernel) rfl
theorem k465 : (Jvm.Cond.selects "BlinkMesh$Mesh" ({ cls := "BlinkMesh$Mesh", name := "changeSetting", desc := "(II)I" } : Jvm.MethodName) ({ cls := "BlinkMesh$Mesh", name := "changeSetting", desc := "(II)I" } : Jvm.MethodName)) ∈ gtbl := gw 465 (by decide +kernel) rfl
theorem k466 : (Jvm.Cond.code ({ cls := "BlinkMesh$Mesh", name := "changeSetting", desc := "(II)I" } : Jvm.MethodName) prog_3_method_21_code (4 : Nat) (Option.some Jvm.ClassFile.FieldType.int)) ∈ gtbl := gw 466 (by decide +kernel) rfl
theorem k467 : (Jvm.Cond.methodLink "BlinkMesh$Mesh" (89 : Nat) ({ cls := "BlinkMesh$Mesh", name := "fitPhases", desc := "()V" } : Jvm.MethodName)) ∈ gtbl := gw 467 (by decide +kernel) rfl
theorem k468 : (Jvm.Cond.instanceMethod ({ cls := "BlinkMesh$Mesh", name := "fitPhases", desc := "()V" } : Jvm.MethodName)) ∈ gtbl := gw 468 (by decide +kernel) rfl
theorem k469 : (Jvm.Cond.selects "BlinkMesh$Mesh" ({ cls := "BlinkMesh$Mesh", name := "fitPhases", desc := "()V" } : Jvm.MethodName) ({ cls := "BlinkMesh$Mesh", name := "fitPhases", desc := "()V" } : Jvm.MethodName)) ∈ gtbl := gw 469 (by decide +kernel) rfl
theorem k470 : (Jvm.Cond.code ({ cls := "BlinkMesh$Mesh", name := "fitPhases", desc := "()V" } : Jvm.MethodName) prog_3_method_22_code (2 : Nat) (Option.none : Option Jvm.ClassFile.FieldType)) ∈ gtbl := gw 470 (by decide +kernel) rfl
theorem k471 : (Jvm.Cond.methodLink "BlinkMeshLaw" (96 : Nat) ({ cls := "BlinkMeshLaw", name := "passSo", desc := "(LBlinkMesh;II)Z" } : Jvm.MethodName)) ∈ gtbl := gw 471 (by decide +kernel) rfl
theorem k472 : (Jvm.Cond.static ({ cls := "BlinkMeshLaw", name := "passSo", desc := "(LBlinkMesh;II)Z" } : Jvm.MethodName)) ∈ gtbl := gw 472 (by decide +kernel) rfl
theorem k473 : (Jvm.Cond.code ({ cls := "BlinkMeshLaw", name := "passSo", desc := "(LBlinkMesh;II)Z" } : Jvm.MethodName) method_13_code (8 : Nat) (Option.some Jvm.ClassFile.FieldType.boolean)) ∈ gtbl := gw 473 rfl rfl
theorem k474 : (Jvm.Cond.methodLink "BlinkMeshLaw" (106 : Nat) ({ cls := "BlinkMeshLaw", name := "bestSo", desc := "(LBlinkMesh;)Z" } : Jvm.MethodName)) ∈ gtbl := gw 474 (by decide +kernel) rfl
theorem k475 : (Jvm.Cond.static ({ cls := "BlinkMeshLaw", name := "bestSo", desc := "(LBlinkMesh;)Z" } : Jvm.MethodName)) ∈ gtbl := gw 475 (by decide +kernel) rfl
theorem k476 : (Jvm.Cond.code ({ cls := "BlinkMeshLaw", name := "bestSo", desc := "(LBlinkMesh;)Z" } : Jvm.MethodName) method_12_code (9 : Nat) (Option.some Jvm.ClassFile.FieldType.boolean)) ∈ gtbl := gw 476 rfl rfl
theorem k477 : (Jvm.Cond.methodLink "BlinkMeshLaw" (109 : Nat) ({ cls := "BlinkMeshLaw", name := "twins", desc := "(LBlinkMesh;I)Z" } : Jvm.MethodName)) ∈ gtbl := gw 477 (by decide +kernel) rfl
theorem k478 : (Jvm.Cond.static ({ cls := "BlinkMeshLaw", name := "twins", desc := "(LBlinkMesh;I)Z" } : Jvm.MethodName)) ∈ gtbl := gw 478 (by decide +kernel) rfl
theorem k479 : (Jvm.Cond.code ({ cls := "BlinkMeshLaw", name := "twins", desc := "(LBlinkMesh;I)Z" } : Jvm.MethodName) method_14_code (9 : Nat) (Option.some Jvm.ClassFile.FieldType.boolean)) ∈ gtbl := gw 479 rfl rfl
theorem kp0 : Cond.selects "BlinkMesh" ⟨"BlinkMesh", "spreadWith", "(II)I"⟩ ⟨"BlinkMesh", "spreadWith", "(II)I"⟩ ∈ gtbl := gwp 0 (by decide +kernel) rfl
theorem kp1 : Cond.selects "BlinkMesh$Mesh" ⟨"BlinkMesh$Mesh", "grow", "()I"⟩ ⟨"BlinkMesh$Mesh", "grow", "()I"⟩ ∈ gtbl := gwp 1 (by decide +kernel) rfl
theorem kp2 : Cond.selects "BlinkMesh$Mesh" ⟨"BlinkMesh$Mesh", "fullPhase", "()I"⟩ ⟨"BlinkMesh$Mesh", "fullPhase", "()I"⟩ ∈ gtbl := gwp 2 (by decide +kernel) rfl
theorem kp3 : Cond.selects "BlinkMesh$Mesh" ⟨"BlinkMesh$Mesh", "blink", "(I)V"⟩ ⟨"BlinkMesh$Mesh", "blink", "(I)V"⟩ ∈ gtbl := gwp 3 (by decide +kernel) rfl
theorem kp4 : Cond.selects "BlinkMesh$Mesh" ⟨"BlinkMesh$Mesh", "pushFrom", "(II)I"⟩ ⟨"BlinkMesh$Mesh", "pushFrom", "(II)I"⟩ ∈ gtbl := gwp 4 (by decide +kernel) rfl
theorem kp5 : Cond.selects "BlinkMesh$Mesh" ⟨"BlinkMesh$Mesh", "pushAll", "(I)I"⟩ ⟨"BlinkMesh$Mesh", "pushAll", "(I)I"⟩ ∈ gtbl := gwp 5 (by decide +kernel) rfl
theorem kp6 : Cond.selects "BlinkMesh$Mesh" ⟨"BlinkMesh$Mesh", "account", "(I)V"⟩ ⟨"BlinkMesh$Mesh", "account", "(I)V"⟩ ∈ gtbl := gwp 6 (by decide +kernel) rfl
theorem kp7 : Cond.selects "BlinkMesh$Mesh" ⟨"BlinkMesh$Mesh", "pieceOf", "(I)I"⟩ ⟨"BlinkMesh$Mesh", "pieceOf", "(I)I"⟩ ∈ gtbl := gwp 7 (by decide +kernel) rfl
theorem kp8 : Cond.selects "BlinkMesh$Mesh" ⟨"BlinkMesh$Mesh", "neighbours", "(I)I"⟩ ⟨"BlinkMesh$Mesh", "neighbours", "(I)I"⟩ ∈ gtbl := gwp 8 (by decide +kernel) rfl
theorem kp9 : Cond.selects "BlinkMesh$Mesh" ⟨"BlinkMesh$Mesh", "agreeing", "(I)I"⟩ ⟨"BlinkMesh$Mesh", "agreeing", "(I)I"⟩ ∈ gtbl := gwp 9 (by decide +kernel) rfl
theorem kp10 : Cond.selects "BlinkMesh" ⟨"BlinkMesh", "trialTogetherIn", "()I"⟩ ⟨"BlinkMesh", "trialTogetherIn", "()I"⟩ ∈ gtbl := gwp 10 (by decide +kernel) rfl
theorem kp11 : Cond.selects "BlinkMesh$History" ⟨"BlinkMesh$History", "dropOldest", "()V"⟩ ⟨"BlinkMesh$History", "dropOldest", "()V"⟩ ∈ gtbl := gwp 11 (by decide +kernel) rfl
end
section
theorem isM0 : isM 0 := ⟨by decide, by decide⟩
theorem isM9 : isM 9 := ⟨by decide, by decide⟩
theorem isM18 : isM 18 := ⟨by decide, by decide⟩
theorem hin0 : ∀ w ∈ u_ws RX0 TX0 2, w ∈ gtbl := by decide +kernel
theorem hin1 : ∀ w ∈ u_ws RX1 TX1 15, w ∈ gtbl := by decide +kernel
theorem hin2 : ∀ w ∈ u_ws RX2 TX2 7, w ∈ gtbl := by decide +kernel
theorem hin3 : ∀ w ∈ u_ws RX3 TX3 6, w ∈ gtbl := by decide +kernel
theorem f0_0 {p : Program} {l : Launch} {e : Env} {R : Room} {s : State} {m : MethodId} {args : Array Value} {below : List Frame} {meth : Method} {c : Code} {A : Nat → Prop} {D : va_G} {t : gT} {ad : Nat → Nat} {cells slots n : Nat} {Q : State → Prop} {G : gG} {pc : Nat} {Lv : List (Option Value)} {st : List Value} {cc : ByteArray} {ret : Option FieldType} (C : gC p s m args meth c cc RX0 n ret A D t ad) (d : decode cc pc = .ok (.getfield 11, 3)) (kk : V p l e R s m args below meth c A D t ad cells slots n Q G (pc + 3) Lv (.ref (ad 64) :: st)) : V p l e R s m args below meth c A D t ad cells slots n Q G pc Lv (.ref (ad 63) :: st) := v_get (k := 63) C (by decide) rfl rfl hin0 0 (by decide) k87 rfl rfl d kk
theorem f0_1 {p : Program} {l : Launch} {e : Env} {R : Room} {s : State} {m : MethodId} {args : Array Value} {below : List Frame} {meth : Method} {c : Code} {A : Nat → Prop} {D : va_G} {t : gT} {ad : Nat → Nat} {cells slots n : Nat} {Q : State → Prop} {G : gG} {pc : Nat} {Lv : List (Option Value)} {st : List Value} {cc : ByteArray} {ret : Option FieldType} (C : gC p s m args meth c cc RX0 n ret A D t ad) (d : decode cc pc = .ok (.getfield 18, 3)) (kk : V p l e R s m args below meth c A D t ad cells slots n Q G (pc + 3) Lv (.int (G 63 1) :: st)) : V p l e R s m args below meth c A D t ad cells slots n Q G pc Lv (.ref (ad 63) :: st) := v_get (k := 63) C (by decide) rfl rfl hin0 1 (by decide) k88 rfl rfl d kk
theorem p0_1 {p : Program} {l : Launch} {e : Env} {R : Room} {s : State} {m : MethodId} {args : Array Value} {below : List Frame} {meth : Method} {c : Code} {A : Nat → Prop} {D : va_G} {t : gT} {ad : Nat → Nat} {cells slots n : Nat} {Q : State → Prop} {G : gG} {pc : Nat} {Lv : List (Option Value)} {st : List Value} {cc : ByteArray} {ret : Option FieldType} {x : Int32} (C : gC p s m args meth c cc RX0 n ret A D t ad) (d : decode cc pc = .ok (.putfield 18, 3)) (kk : V p l e R s m args below meth c A D t ad cells slots n Q (gu G 63 1 x) (pc + 3) Lv st) : V p l e R s m args below meth c A D t ad cells slots n Q G pc Lv (.int x :: .ref (ad 63) :: st) := v_put (k := 63) C (by decide) rfl rfl hin0 tyX0 tyX0_ok nmX0 1 (by decide) k88 rfl rfl (ty := .int) (by decide +kernel) rfl rfl (Nat.le_of_ble_eq_true rfl) (by simp [ce, gu]) d kk
theorem f1_0 {p : Program} {l : Launch} {e : Env} {R : Room} {s : State} {m : MethodId} {args : Array Value} {below : List Frame} {meth : Method} {c : Code} {A : Nat → Prop} {D : va_G} {t : gT} {ad : Nat → Nat} {cells slots n : Nat} {Q : State → Prop} {G : gG} {pc : Nat} {Lv : List (Option Value)} {st : List Value} {cc : ByteArray} {ret : Option FieldType} (C : gC p s m args meth c cc RX1 n ret A D t ad) {k : Nat} (hm : isM k) (d : decode cc pc = .ok (.getfield 9, 3)) (kk : V p l e R s m args below meth c A D t ad cells slots n Q G (pc + 3) Lv (.ref (ad (k + 1)) :: st)) : V p l e R s m args below meth c A D t ad cells slots n Q G pc Lv (.ref (ad k) :: st) := v_get (k := k) C (isM_lt (f := 0) hm (by decide)) (ce_m hm) rfl hin1 0 (by decide) k31 rfl rfl d kk
theorem f1_1 {p : Program} {l : Launch} {e : Env} {R : Room} {s : State} {m : MethodId} {args : Array Value} {below : List Frame} {meth : Method} {c : Code} {A : Nat → Prop} {D : va_G} {t : gT} {ad : Nat → Nat} {cells slots n : Nat} {Q : State → Prop} {G : gG} {pc : Nat} {Lv : List (Option Value)} {st : List Value} {cc : ByteArray} {ret : Option FieldType} (C : gC p s m args meth c cc RX1 n ret A D t ad) {k : Nat} (hm : isM k) (d : decode cc pc = .ok (.getfield 15, 3)) (kk : V p l e R s m args below meth c A D t ad cells slots n Q G (pc + 3) Lv (.ref (ad (k + 2)) :: st)) : V p l e R s m args below meth c A D t ad cells slots n Q G pc Lv (.ref (ad k) :: st) := v_get (k := k) C (isM_lt (f := 0) hm (by decide)) (ce_m hm) rfl hin1 1 (by decide) k32 rfl rfl d kk
theorem f1_2 {p : Program} {l : Launch} {e : Env} {R : Room} {s : State} {m : MethodId} {args : Array Value} {below : List Frame} {meth : Method} {c : Code} {A : Nat → Prop} {D : va_G} {t : gT} {ad : Nat → Nat} {cells slots n : Nat} {Q : State → Prop} {G : gG} {pc : Nat} {Lv : List (Option Value)} {st : List Value} {cc : ByteArray} {ret : Option FieldType} (C : gC p s m args meth c cc RX1 n ret A D t ad) {k : Nat} (hm : isM k) (d : decode cc pc = .ok (.getfield 18, 3)) (kk : V p l e R s m args below meth c A D t ad cells slots n Q G (pc + 3) Lv (.ref (ad (k + 3)) :: st)) : V p l e R s m args below meth c A D t ad cells slots n Q G pc Lv (.ref (ad k) :: st) := v_get (k := k) C (isM_lt (f := 0) hm (by decide)) (ce_m hm) rfl hin1 2 (by decide) k33 rfl rfl d kk
theorem f1_3 {p : Program} {l : Launch} {e : Env} {R : Room} {s : State} {m : MethodId} {args : Array Value} {below : List Frame} {meth : Method} {c : Code} {A : Nat → Prop} {D : va_G} {t : gT} {ad : Nat → Nat} {cells slots n : Nat} {Q : State → Prop} {G : gG} {pc : Nat} {Lv : List (Option Value)} {st : List Value} {cc : ByteArray} {ret : Option FieldType} (C : gC p s m args meth c cc RX1 n ret A D t ad) {k : Nat} (hm : isM k) (d : decode cc pc = .ok (.getfield 21, 3)) (kk : V p l e R s m args below meth c A D t ad cells slots n Q G (pc + 3) Lv (.ref (ad (k + 4)) :: st)) : V p l e R s m args below meth c A D t ad cells slots n Q G pc Lv (.ref (ad k) :: st) := v_get (k := k) C (isM_lt (f := 0) hm (by decide)) (ce_m hm) rfl hin1 3 (by decide) k34 rfl rfl d kk
theorem f1_4 {p : Program} {l : Launch} {e : Env} {R : Room} {s : State} {m : MethodId} {args : Array Value} {below : List Frame} {meth : Method} {c : Code} {A : Nat → Prop} {D : va_G} {t : gT} {ad : Nat → Nat} {cells slots n : Nat} {Q : State → Prop} {G : gG} {pc : Nat} {Lv : List (Option Value)} {st : List Value} {cc : ByteArray} {ret : Option FieldType} (C : gC p s m args meth c cc RX1 n ret A D t ad) {k : Nat} (hm : isM k) (d : decode cc pc = .ok (.getfield 24, 3)) (kk : V p l e R s m args below meth c A D t ad cells slots n Q G (pc + 3) Lv (.ref (ad (k + 5)) :: st)) : V p l e R s m args below meth c A D t ad cells slots n Q G pc Lv (.ref (ad k) :: st) := v_get (k := k) C (isM_lt (f := 0) hm (by decide)) (ce_m hm) rfl hin1 4 (by decide) k35 rfl rfl d kk
theorem f1_5 {p : Program} {l : Launch} {e : Env} {R : Room} {s : State} {m : MethodId} {args : Array Value} {below : List Frame} {meth : Method} {c : Code} {A : Nat → Prop} {D : va_G} {t : gT} {ad : Nat → Nat} {cells slots n : Nat} {Q : State → Prop} {G : gG} {pc : Nat} {Lv : List (Option Value)} {st : List Value} {cc : ByteArray} {ret : Option FieldType} (C : gC p s m args meth c cc RX1 n ret A D t ad) {k : Nat} (hm : isM k) (d : decode cc pc = .ok (.getfield 27, 3)) (kk : V p l e R s m args below meth c A D t ad cells slots n Q G (pc + 3) Lv (.ref (ad (k + 6)) :: st)) : V p l e R s m args below meth c A D t ad cells slots n Q G pc Lv (.ref (ad k) :: st) := v_get (k := k) C (isM_lt (f := 0) hm (by decide)) (ce_m hm) rfl hin1 5 (by decide) k36 rfl rfl d kk
theorem f1_6 {p : Program} {l : Launch} {e : Env} {R : Room} {s : State} {m : MethodId} {args : Array Value} {below : List Frame} {meth : Method} {c : Code} {A : Nat → Prop} {D : va_G} {t : gT} {ad : Nat → Nat} {cells slots n : Nat} {Q : State → Prop} {G : gG} {pc : Nat} {Lv : List (Option Value)} {st : List Value} {cc : ByteArray} {ret : Option FieldType} (C : gC p s m args meth c cc RX1 n ret A D t ad) {k : Nat} (hm : isM k) (d : decode cc pc = .ok (.getfield 30, 3)) (kk : V p l e R s m args below meth c A D t ad cells slots n Q G (pc + 3) Lv (.ref (ad (k + 7)) :: st)) : V p l e R s m args below meth c A D t ad cells slots n Q G pc Lv (.ref (ad k) :: st) := v_get (k := k) C (isM_lt (f := 0) hm (by decide)) (ce_m hm) rfl hin1 6 (by decide) k37 rfl rfl d kk
theorem f1_7 {p : Program} {l : Launch} {e : Env} {R : Room} {s : State} {m : MethodId} {args : Array Value} {below : List Frame} {meth : Method} {c : Code} {A : Nat → Prop} {D : va_G} {t : gT} {ad : Nat → Nat} {cells slots n : Nat} {Q : State → Prop} {G : gG} {pc : Nat} {Lv : List (Option Value)} {st : List Value} {cc : ByteArray} {ret : Option FieldType} (C : gC p s m args meth c cc RX1 n ret A D t ad) {k : Nat} (hm : isM k) (d : decode cc pc = .ok (.getfield 41, 3)) (kk : V p l e R s m args below meth c A D t ad cells slots n Q G (pc + 3) Lv (.ref (ad (k + 8)) :: st)) : V p l e R s m args below meth c A D t ad cells slots n Q G pc Lv (.ref (ad k) :: st) := v_get (k := k) C (isM_lt (f := 0) hm (by decide)) (ce_m hm) rfl hin1 7 (by decide) k38 rfl rfl d kk
theorem f1_8 {p : Program} {l : Launch} {e : Env} {R : Room} {s : State} {m : MethodId} {args : Array Value} {below : List Frame} {meth : Method} {c : Code} {A : Nat → Prop} {D : va_G} {t : gT} {ad : Nat → Nat} {cells slots n : Nat} {Q : State → Prop} {G : gG} {pc : Nat} {Lv : List (Option Value)} {st : List Value} {cc : ByteArray} {ret : Option FieldType} (C : gC p s m args meth c cc RX1 n ret A D t ad) {k : Nat} (hm : isM k) (d : decode cc pc = .ok (.getfield 50, 3)) (kk : V p l e R s m args below meth c A D t ad cells slots n Q G (pc + 3) Lv (.int (G k 8) :: st)) : V p l e R s m args below meth c A D t ad cells slots n Q G pc Lv (.ref (ad k) :: st) := v_get (k := k) C (isM_lt (f := 0) hm (by decide)) (ce_m hm) rfl hin1 8 (by decide) k39 rfl rfl d kk
theorem p1_8 {p : Program} {l : Launch} {e : Env} {R : Room} {s : State} {m : MethodId} {args : Array Value} {below : List Frame} {meth : Method} {c : Code} {A : Nat → Prop} {D : va_G} {t : gT} {ad : Nat → Nat} {cells slots n : Nat} {Q : State → Prop} {G : gG} {pc : Nat} {Lv : List (Option Value)} {st : List Value} {cc : ByteArray} {ret : Option FieldType} {x : Int32} (C : gC p s m args meth c cc RX1 n ret A D t ad) {k : Nat} (hm : isM k) (d : decode cc pc = .ok (.putfield 50, 3)) (kk : V p l e R s m args below meth c A D t ad cells slots n Q (gu G k 8 x) (pc + 3) Lv st) : V p l e R s m args below meth c A D t ad cells slots n Q G pc Lv (.int x :: .ref (ad k) :: st) := v_put (k := k) C (isM_lt (f := 0) hm (by decide)) (ce_m hm) rfl hin1 tyX1 tyX1_ok nmX1 8 (by decide) k39 rfl rfl (ty := .int) (by decide +kernel) rfl rfl (Nat.le_of_ble_eq_true rfl) (by rw [ce_m hm]; simp [gu]) d kk
theorem f1_9 {p : Program} {l : Launch} {e : Env} {R : Room} {s : State} {m : MethodId} {args : Array Value} {below : List Frame} {meth : Method} {c : Code} {A : Nat → Prop} {D : va_G} {t : gT} {ad : Nat → Nat} {cells slots n : Nat} {Q : State → Prop} {G : gG} {pc : Nat} {Lv : List (Option Value)} {st : List Value} {cc : ByteArray} {ret : Option FieldType} (C : gC p s m args meth c cc RX1 n ret A D t ad) {k : Nat} (hm : isM k) (d : decode cc pc = .ok (.getfield 54, 3)) (kk : V p l e R s m args below meth c A D t ad cells slots n Q G (pc + 3) Lv (.int (G k 9) :: st)) : V p l e R s m args below meth c A D t ad cells slots n Q G pc Lv (.ref (ad k) :: st) := v_get (k := k) C (isM_lt (f := 0) hm (by decide)) (ce_m hm) rfl hin1 9 (by decide) k40 rfl rfl d kk
theorem p1_9 {p : Program} {l : Launch} {e : Env} {R : Room} {s : State} {m : MethodId} {args : Array Value} {below : List Frame} {meth : Method} {c : Code} {A : Nat → Prop} {D : va_G} {t : gT} {ad : Nat → Nat} {cells slots n : Nat} {Q : State → Prop} {G : gG} {pc : Nat} {Lv : List (Option Value)} {st : List Value} {cc : ByteArray} {ret : Option FieldType} {x : Int32} (C : gC p s m args meth c cc RX1 n ret A D t ad) {k : Nat} (hm : isM k) (d : decode cc pc = .ok (.putfield 54, 3)) (kk : V p l e R s m args below meth c A D t ad cells slots n Q (gu G k 9 x) (pc + 3) Lv st) : V p l e R s m args below meth c A D t ad cells slots n Q G pc Lv (.int x :: .ref (ad k) :: st) := v_put (k := k) C (isM_lt (f := 0) hm (by decide)) (ce_m hm) rfl hin1 tyX1 tyX1_ok nmX1 9 (by decide) k40 rfl rfl (ty := .int) (by decide +kernel) rfl rfl (Nat.le_of_ble_eq_true rfl) (by rw [ce_m hm]; simp [gu]) d kk
theorem f1_10 {p : Program} {l : Launch} {e : Env} {R : Room} {s : State} {m : MethodId} {args : Array Value} {below : List Frame} {meth : Method} {c : Code} {A : Nat → Prop} {D : va_G} {t : gT} {ad : Nat → Nat} {cells slots n : Nat} {Q : State → Prop} {G : gG} {pc : Nat} {Lv : List (Option Value)} {st : List Value} {cc : ByteArray} {ret : Option FieldType} (C : gC p s m args meth c cc RX1 n ret A D t ad) {k : Nat} (hm : isM k) (d : decode cc pc = .ok (.getfield 57, 3)) (kk : V p l e R s m args below meth c A D t ad cells slots n Q G (pc + 3) Lv (.int (G k 10) :: st)) : V p l e R s m args below meth c A D t ad cells slots n Q G pc Lv (.ref (ad k) :: st) := v_get (k := k) C (isM_lt (f := 0) hm (by decide)) (ce_m hm) rfl hin1 10 (by decide) k41 rfl rfl d kk
theorem p1_10 {p : Program} {l : Launch} {e : Env} {R : Room} {s : State} {m : MethodId} {args : Array Value} {below : List Frame} {meth : Method} {c : Code} {A : Nat → Prop} {D : va_G} {t : gT} {ad : Nat → Nat} {cells slots n : Nat} {Q : State → Prop} {G : gG} {pc : Nat} {Lv : List (Option Value)} {st : List Value} {cc : ByteArray} {ret : Option FieldType} {x : Int32} (C : gC p s m args meth c cc RX1 n ret A D t ad) {k : Nat} (hm : isM k) (d : decode cc pc = .ok (.putfield 57, 3)) (kk : V p l e R s m args below meth c A D t ad cells slots n Q (gu G k 10 x) (pc + 3) Lv st) : V p l e R s m args below meth c A D t ad cells slots n Q G pc Lv (.int x :: .ref (ad k) :: st) := v_put (k := k) C (isM_lt (f := 0) hm (by decide)) (ce_m hm) rfl hin1 tyX1 tyX1_ok nmX1 10 (by decide) k41 rfl rfl (ty := .int) (by decide +kernel) rfl rfl (Nat.le_of_ble_eq_true rfl) (by rw [ce_m hm]; simp [gu]) d kk
theorem f1_11 {p : Program} {l : Launch} {e : Env} {R : Room} {s : State} {m : MethodId} {args : Array Value} {below : List Frame} {meth : Method} {c : Code} {A : Nat → Prop} {D : va_G} {t : gT} {ad : Nat → Nat} {cells slots n : Nat} {Q : State → Prop} {G : gG} {pc : Nat} {Lv : List (Option Value)} {st : List Value} {cc : ByteArray} {ret : Option FieldType} (C : gC p s m args meth c cc RX1 n ret A D t ad) {k : Nat} (hm : isM k) (d : decode cc pc = .ok (.getfield 60, 3)) (kk : V p l e R s m args below meth c A D t ad cells slots n Q G (pc + 3) Lv (.int (G k 11) :: st)) : V p l e R s m args below meth c A D t ad cells slots n Q G pc Lv (.ref (ad k) :: st) := v_get (k := k) C (isM_lt (f := 0) hm (by decide)) (ce_m hm) rfl hin1 11 (by decide) k42 rfl rfl d kk
theorem p1_11 {p : Program} {l : Launch} {e : Env} {R : Room} {s : State} {m : MethodId} {args : Array Value} {below : List Frame} {meth : Method} {c : Code} {A : Nat → Prop} {D : va_G} {t : gT} {ad : Nat → Nat} {cells slots n : Nat} {Q : State → Prop} {G : gG} {pc : Nat} {Lv : List (Option Value)} {st : List Value} {cc : ByteArray} {ret : Option FieldType} {x : Int32} (C : gC p s m args meth c cc RX1 n ret A D t ad) {k : Nat} (hm : isM k) (d : decode cc pc = .ok (.putfield 60, 3)) (kk : V p l e R s m args below meth c A D t ad cells slots n Q (gu G k 11 x) (pc + 3) Lv st) : V p l e R s m args below meth c A D t ad cells slots n Q G pc Lv (.int x :: .ref (ad k) :: st) := v_put (k := k) C (isM_lt (f := 0) hm (by decide)) (ce_m hm) rfl hin1 tyX1 tyX1_ok nmX1 11 (by decide) k42 rfl rfl (ty := .int) (by decide +kernel) rfl rfl (Nat.le_of_ble_eq_true rfl) (by rw [ce_m hm]; simp [gu]) d kk
theorem f1_12 {p : Program} {l : Launch} {e : Env} {R : Room} {s : State} {m : MethodId} {args : Array Value} {below : List Frame} {meth : Method} {c : Code} {A : Nat → Prop} {D : va_G} {t : gT} {ad : Nat → Nat} {cells slots n : Nat} {Q : State → Prop} {G : gG} {pc : Nat} {Lv : List (Option Value)} {st : List Value} {cc : ByteArray} {ret : Option FieldType} (C : gC p s m args meth c cc RX1 n ret A D t ad) {k : Nat} (hm : isM k) (d : decode cc pc = .ok (.getfield 63, 3)) (kk : V p l e R s m args below meth c A D t ad cells slots n Q G (pc + 3) Lv (.int (G k 12) :: st)) : V p l e R s m args below meth c A D t ad cells slots n Q G pc Lv (.ref (ad k) :: st) := v_get (k := k) C (isM_lt (f := 0) hm (by decide)) (ce_m hm) rfl hin1 12 (by decide) k43 rfl rfl d kk
theorem p1_12 {p : Program} {l : Launch} {e : Env} {R : Room} {s : State} {m : MethodId} {args : Array Value} {below : List Frame} {meth : Method} {c : Code} {A : Nat → Prop} {D : va_G} {t : gT} {ad : Nat → Nat} {cells slots n : Nat} {Q : State → Prop} {G : gG} {pc : Nat} {Lv : List (Option Value)} {st : List Value} {cc : ByteArray} {ret : Option FieldType} {x : Int32} (C : gC p s m args meth c cc RX1 n ret A D t ad) {k : Nat} (hm : isM k) (d : decode cc pc = .ok (.putfield 63, 3)) (kk : V p l e R s m args below meth c A D t ad cells slots n Q (gu G k 12 x) (pc + 3) Lv st) : V p l e R s m args below meth c A D t ad cells slots n Q G pc Lv (.int x :: .ref (ad k) :: st) := v_put (k := k) C (isM_lt (f := 0) hm (by decide)) (ce_m hm) rfl hin1 tyX1 tyX1_ok nmX1 12 (by decide) k43 rfl rfl (ty := .int) (by decide +kernel) rfl rfl (Nat.le_of_ble_eq_true rfl) (by rw [ce_m hm]; simp [gu]) d kk
theorem f1_13 {p : Program} {l : Launch} {e : Env} {R : Room} {s : State} {m : MethodId} {args : Array Value} {below : List Frame} {meth : Method} {c : Code} {A : Nat → Prop} {D : va_G} {t : gT} {ad : Nat → Nat} {cells slots n : Nat} {Q : State → Prop} {G : gG} {pc : Nat} {Lv : List (Option Value)} {st : List Value} {cc : ByteArray} {ret : Option FieldType} (C : gC p s m args meth c cc RX1 n ret A D t ad) {k : Nat} (hm : isM k) (d : decode cc pc = .ok (.getfield 66, 3)) (kk : V p l e R s m args below meth c A D t ad cells slots n Q G (pc + 3) Lv (.int (G k 13) :: st)) : V p l e R s m args below meth c A D t ad cells slots n Q G pc Lv (.ref (ad k) :: st) := v_get (k := k) C (isM_lt (f := 0) hm (by decide)) (ce_m hm) rfl hin1 13 (by decide) k44 rfl rfl d kk
theorem p1_13 {p : Program} {l : Launch} {e : Env} {R : Room} {s : State} {m : MethodId} {args : Array Value} {below : List Frame} {meth : Method} {c : Code} {A : Nat → Prop} {D : va_G} {t : gT} {ad : Nat → Nat} {cells slots n : Nat} {Q : State → Prop} {G : gG} {pc : Nat} {Lv : List (Option Value)} {st : List Value} {cc : ByteArray} {ret : Option FieldType} {x : Int32} (C : gC p s m args meth c cc RX1 n ret A D t ad) {k : Nat} (hm : isM k) (d : decode cc pc = .ok (.putfield 66, 3)) (kk : V p l e R s m args below meth c A D t ad cells slots n Q (gu G k 13 x) (pc + 3) Lv st) : V p l e R s m args below meth c A D t ad cells slots n Q G pc Lv (.int x :: .ref (ad k) :: st) := v_put (k := k) C (isM_lt (f := 0) hm (by decide)) (ce_m hm) rfl hin1 tyX1 tyX1_ok nmX1 13 (by decide) k44 rfl rfl (ty := .int) (by decide +kernel) rfl rfl (Nat.le_of_ble_eq_true rfl) (by rw [ce_m hm]; simp [gu]) d kk
theorem f1_14 {p : Program} {l : Launch} {e : Env} {R : Room} {s : State} {m : MethodId} {args : Array Value} {below : List Frame} {meth : Method} {c : Code} {A : Nat → Prop} {D : va_G} {t : gT} {ad : Nat → Nat} {cells slots n : Nat} {Q : State → Prop} {G : gG} {pc : Nat} {Lv : List (Option Value)} {st : List Value} {cc : ByteArray} {ret : Option FieldType} (C : gC p s m args meth c cc RX1 n ret A D t ad) {k : Nat} (hm : isM k) (d : decode cc pc = .ok (.getfield 69, 3)) (kk : V p l e R s m args below meth c A D t ad cells slots n Q G (pc + 3) Lv (.int (G k 14) :: st)) : V p l e R s m args below meth c A D t ad cells slots n Q G pc Lv (.ref (ad k) :: st) := v_get (k := k) C (isM_lt (f := 0) hm (by decide)) (ce_m hm) rfl hin1 14 (by decide) k45 rfl rfl d kk
theorem p1_14 {p : Program} {l : Launch} {e : Env} {R : Room} {s : State} {m : MethodId} {args : Array Value} {below : List Frame} {meth : Method} {c : Code} {A : Nat → Prop} {D : va_G} {t : gT} {ad : Nat → Nat} {cells slots n : Nat} {Q : State → Prop} {G : gG} {pc : Nat} {Lv : List (Option Value)} {st : List Value} {cc : ByteArray} {ret : Option FieldType} {x : Int32} (C : gC p s m args meth c cc RX1 n ret A D t ad) {k : Nat} (hm : isM k) (d : decode cc pc = .ok (.putfield 69, 3)) (kk : V p l e R s m args below meth c A D t ad cells slots n Q (gu G k 14 x) (pc + 3) Lv st) : V p l e R s m args below meth c A D t ad cells slots n Q G pc Lv (.int x :: .ref (ad k) :: st) := v_put (k := k) C (isM_lt (f := 0) hm (by decide)) (ce_m hm) rfl hin1 tyX1 tyX1_ok nmX1 14 (by decide) k45 rfl rfl (ty := .int) (by decide +kernel) rfl rfl (Nat.le_of_ble_eq_true rfl) (by rw [ce_m hm]; simp [gu]) d kk
theorem f2_0 {p : Program} {l : Launch} {e : Env} {R : Room} {s : State} {m : MethodId} {args : Array Value} {below : List Frame} {meth : Method} {c : Code} {A : Nat → Prop} {D : va_G} {t : gT} {ad : Nat → Nat} {cells slots n : Nat} {Q : State → Prop} {G : gG} {pc : Nat} {Lv : List (Option Value)} {st : List Value} {cc : ByteArray} {ret : Option FieldType} (C : gC p s m args meth c cc RX2 n ret A D t ad) (d : decode cc pc = .ok (.getfield 9, 3)) (kk : V p l e R s m args below meth c A D t ad cells slots n Q G (pc + 3) Lv (.ref (ad 66) :: st)) : V p l e R s m args below meth c A D t ad cells slots n Q G pc Lv (.ref (ad 65) :: st) := v_get (k := 65) C (by decide) rfl rfl hin2 0 (by decide) k100 rfl rfl d kk
theorem f2_1 {p : Program} {l : Launch} {e : Env} {R : Room} {s : State} {m : MethodId} {args : Array Value} {below : List Frame} {meth : Method} {c : Code} {A : Nat → Prop} {D : va_G} {t : gT} {ad : Nat → Nat} {cells slots n : Nat} {Q : State → Prop} {G : gG} {pc : Nat} {Lv : List (Option Value)} {st : List Value} {cc : ByteArray} {ret : Option FieldType} (C : gC p s m args meth c cc RX2 n ret A D t ad) (d : decode cc pc = .ok (.getfield 25, 3)) (kk : V p l e R s m args below meth c A D t ad cells slots n Q G (pc + 3) Lv (.int (G 65 1) :: st)) : V p l e R s m args below meth c A D t ad cells slots n Q G pc Lv (.ref (ad 65) :: st) := v_get (k := 65) C (by decide) rfl rfl hin2 1 (by decide) k101 rfl rfl d kk
theorem p2_1 {p : Program} {l : Launch} {e : Env} {R : Room} {s : State} {m : MethodId} {args : Array Value} {below : List Frame} {meth : Method} {c : Code} {A : Nat → Prop} {D : va_G} {t : gT} {ad : Nat → Nat} {cells slots n : Nat} {Q : State → Prop} {G : gG} {pc : Nat} {Lv : List (Option Value)} {st : List Value} {cc : ByteArray} {ret : Option FieldType} {x : Int32} (C : gC p s m args meth c cc RX2 n ret A D t ad) (d : decode cc pc = .ok (.putfield 25, 3)) (kk : V p l e R s m args below meth c A D t ad cells slots n Q (gu G 65 1 x) (pc + 3) Lv st) : V p l e R s m args below meth c A D t ad cells slots n Q G pc Lv (.int x :: .ref (ad 65) :: st) := v_put (k := 65) C (by decide) rfl rfl hin2 tyX2 tyX2_ok nmX2 1 (by decide) k101 rfl rfl (ty := .int) (by decide +kernel) rfl rfl (Nat.le_of_ble_eq_true rfl) (by simp [ce, gu]) d kk
theorem f2_3 {p : Program} {l : Launch} {e : Env} {R : Room} {s : State} {m : MethodId} {args : Array Value} {below : List Frame} {meth : Method} {c : Code} {A : Nat → Prop} {D : va_G} {t : gT} {ad : Nat → Nat} {cells slots n : Nat} {Q : State → Prop} {G : gG} {pc : Nat} {Lv : List (Option Value)} {st : List Value} {cc : ByteArray} {ret : Option FieldType} (C : gC p s m args meth c cc RX2 n ret A D t ad) (d : decode cc pc = .ok (.getfield 15, 3)) (kk : V p l e R s m args below meth c A D t ad cells slots n Q G (pc + 3) Lv (.ref (ad 67) :: st)) : V p l e R s m args below meth c A D t ad cells slots n Q G pc Lv (.ref (ad 65) :: st) := v_get (k := 65) C (by decide) rfl rfl hin2 3 (by decide) k102 rfl rfl d kk
theorem f2_4 {p : Program} {l : Launch} {e : Env} {R : Room} {s : State} {m : MethodId} {args : Array Value} {below : List Frame} {meth : Method} {c : Code} {A : Nat → Prop} {D : va_G} {t : gT} {ad : Nat → Nat} {cells slots n : Nat} {Q : State → Prop} {G : gG} {pc : Nat} {Lv : List (Option Value)} {st : List Value} {cc : ByteArray} {ret : Option FieldType} (C : gC p s m args meth c cc RX2 n ret A D t ad) (d : decode cc pc = .ok (.getfield 19, 3)) (kk : V p l e R s m args below meth c A D t ad cells slots n Q G (pc + 3) Lv (.ref (ad 68) :: st)) : V p l e R s m args below meth c A D t ad cells slots n Q G pc Lv (.ref (ad 65) :: st) := v_get (k := 65) C (by decide) rfl rfl hin2 4 (by decide) k103 rfl rfl d kk
theorem f2_6 {p : Program} {l : Launch} {e : Env} {R : Room} {s : State} {m : MethodId} {args : Array Value} {below : List Frame} {meth : Method} {c : Code} {A : Nat → Prop} {D : va_G} {t : gT} {ad : Nat → Nat} {cells slots n : Nat} {Q : State → Prop} {G : gG} {pc : Nat} {Lv : List (Option Value)} {st : List Value} {cc : ByteArray} {ret : Option FieldType} (C : gC p s m args meth c cc RX2 n ret A D t ad) (d : decode cc pc = .ok (.getfield 22, 3)) (kk : V p l e R s m args below meth c A D t ad cells slots n Q G (pc + 3) Lv (.ref (ad 69) :: st)) : V p l e R s m args below meth c A D t ad cells slots n Q G pc Lv (.ref (ad 65) :: st) := v_get (k := 65) C (by decide) rfl rfl hin2 6 (by decide) k104 rfl rfl d kk
theorem f3_0 {p : Program} {l : Launch} {e : Env} {R : Room} {s : State} {m : MethodId} {args : Array Value} {below : List Frame} {meth : Method} {c : Code} {A : Nat → Prop} {D : va_G} {t : gT} {ad : Nat → Nat} {cells slots n : Nat} {Q : State → Prop} {G : gG} {pc : Nat} {Lv : List (Option Value)} {st : List Value} {cc : ByteArray} {ret : Option FieldType} (C : gC p s m args meth c cc RX3 n ret A D t ad) (d : decode cc pc = .ok (.getfield 10, 3)) (kk : V p l e R s m args below meth c A D t ad cells slots n Q G (pc + 3) Lv (.ref (ad 0) :: st)) : V p l e R s m args below meth c A D t ad cells slots n Q G pc Lv (.ref (ad 70) :: st) := v_get (k := 70) C (by decide) rfl rfl hin3 0 (by decide) k121 rfl rfl d kk
theorem f3_1 {p : Program} {l : Launch} {e : Env} {R : Room} {s : State} {m : MethodId} {args : Array Value} {below : List Frame} {meth : Method} {c : Code} {A : Nat → Prop} {D : va_G} {t : gT} {ad : Nat → Nat} {cells slots n : Nat} {Q : State → Prop} {G : gG} {pc : Nat} {Lv : List (Option Value)} {st : List Value} {cc : ByteArray} {ret : Option FieldType} (C : gC p s m args meth c cc RX3 n ret A D t ad) (d : decode cc pc = .ok (.getfield 16, 3)) (kk : V p l e R s m args below meth c A D t ad cells slots n Q G (pc + 3) Lv (.ref (ad 9) :: st)) : V p l e R s m args below meth c A D t ad cells slots n Q G pc Lv (.ref (ad 70) :: st) := v_get (k := 70) C (by decide) rfl rfl hin3 1 (by decide) k122 rfl rfl d kk
theorem f3_2 {p : Program} {l : Launch} {e : Env} {R : Room} {s : State} {m : MethodId} {args : Array Value} {below : List Frame} {meth : Method} {c : Code} {A : Nat → Prop} {D : va_G} {t : gT} {ad : Nat → Nat} {cells slots n : Nat} {Q : State → Prop} {G : gG} {pc : Nat} {Lv : List (Option Value)} {st : List Value} {cc : ByteArray} {ret : Option FieldType} (C : gC p s m args meth c cc RX3 n ret A D t ad) (d : decode cc pc = .ok (.getfield 19, 3)) (kk : V p l e R s m args below meth c A D t ad cells slots n Q G (pc + 3) Lv (.ref (ad 18) :: st)) : V p l e R s m args below meth c A D t ad cells slots n Q G pc Lv (.ref (ad 70) :: st) := v_get (k := 70) C (by decide) rfl rfl hin3 2 (by decide) k123 rfl rfl d kk
theorem f3_3 {p : Program} {l : Launch} {e : Env} {R : Room} {s : State} {m : MethodId} {args : Array Value} {below : List Frame} {meth : Method} {c : Code} {A : Nat → Prop} {D : va_G} {t : gT} {ad : Nat → Nat} {cells slots n : Nat} {Q : State → Prop} {G : gG} {pc : Nat} {Lv : List (Option Value)} {st : List Value} {cc : ByteArray} {ret : Option FieldType} (C : gC p s m args meth c cc RX3 n ret A D t ad) (d : decode cc pc = .ok (.getfield 22, 3)) (kk : V p l e R s m args below meth c A D t ad cells slots n Q G (pc + 3) Lv (.int (G 70 3) :: st)) : V p l e R s m args below meth c A D t ad cells slots n Q G pc Lv (.ref (ad 70) :: st) := v_get (k := 70) C (by decide) rfl rfl hin3 3 (by decide) k124 rfl rfl d kk
theorem p3_3 {p : Program} {l : Launch} {e : Env} {R : Room} {s : State} {m : MethodId} {args : Array Value} {below : List Frame} {meth : Method} {c : Code} {A : Nat → Prop} {D : va_G} {t : gT} {ad : Nat → Nat} {cells slots n : Nat} {Q : State → Prop} {G : gG} {pc : Nat} {Lv : List (Option Value)} {st : List Value} {cc : ByteArray} {ret : Option FieldType} {x : Int32} (C : gC p s m args meth c cc RX3 n ret A D t ad) (hb : nb x) (d : decode cc pc = .ok (.putfield 22, 3)) (kk : V p l e R s m args below meth c A D t ad cells slots n Q (gu G 70 3 x) (pc + 3) Lv st) : V p l e R s m args below meth c A D t ad cells slots n Q G pc Lv (.int x :: .ref (ad 70) :: st) := v_put (k := 70) C (by decide) rfl rfl hin3 tyX3 tyX3_ok nmX3 3 (by decide) k124 rfl rfl (ty := .boolean) (by decide +kernel) (nb_n hb) (by rcases hb with rfl | rfl <;> rfl) (Nat.le_of_ble_eq_true rfl) (by simp [ce, gu]) d kk
theorem f3_4 {p : Program} {l : Launch} {e : Env} {R : Room} {s : State} {m : MethodId} {args : Array Value} {below : List Frame} {meth : Method} {c : Code} {A : Nat → Prop} {D : va_G} {t : gT} {ad : Nat → Nat} {cells slots n : Nat} {Q : State → Prop} {G : gG} {pc : Nat} {Lv : List (Option Value)} {st : List Value} {cc : ByteArray} {ret : Option FieldType} (C : gC p s m args meth c cc RX3 n ret A D t ad) (d : decode cc pc = .ok (.getfield 29, 3)) (kk : V p l e R s m args below meth c A D t ad cells slots n Q G (pc + 3) Lv (.ref (ad 63) :: st)) : V p l e R s m args below meth c A D t ad cells slots n Q G pc Lv (.ref (ad 70) :: st) := v_get (k := 70) C (by decide) rfl rfl hin3 4 (by decide) k125 rfl rfl d kk
theorem f3_5 {p : Program} {l : Launch} {e : Env} {R : Room} {s : State} {m : MethodId} {args : Array Value} {below : List Frame} {meth : Method} {c : Code} {A : Nat → Prop} {D : va_G} {t : gT} {ad : Nat → Nat} {cells slots n : Nat} {Q : State → Prop} {G : gG} {pc : Nat} {Lv : List (Option Value)} {st : List Value} {cc : ByteArray} {ret : Option FieldType} (C : gC p s m args meth c cc RX3 n ret A D t ad) (d : decode cc pc = .ok (.getfield 36, 3)) (kk : V p l e R s m args below meth c A D t ad cells slots n Q G (pc + 3) Lv (.ref (ad 65) :: st)) : V p l e R s m args below meth c A D t ad cells slots n Q G pc Lv (.ref (ad 70) :: st) := v_get (k := 70) C (by decide) rfl rfl hin3 5 (by decide) k126 rfl rfl d kk
theorem lv_args_all : ∀ (av : List Value) (j : Nat), av.all (fun v => v.category == 1) = true → ∀ q ∈ lv_args j av, q.2.category = 1
  | [], _, _, q, h => by cases h
  | v :: vs, j, ha, q, h => by
    simp only [List.all_cons, Bool.and_eq_true] at ha
    rcases List.mem_cons.mp h with rfl | h
    · simpa using ha.1
    · exact lv_args_all vs _ ha.2 q h
theorem lv_args_at : ∀ (av : List Value) (j : Nat), av.all (fun v => v.category == 1) = true → ∀ (i : Nat) (v : Value), av[i]? = some v → (j + i, v) ∈ lv_args j av
  | [], _, _, i, v, h => by simp at h
  | w :: vs, j, ha, i, v, h => by
    simp only [List.all_cons, Bool.and_eq_true] at ha
    have hw : w.category = 1 := by simpa using ha.1
    cases i with
    | zero => simp at h; subst h; exact List.mem_cons_self
    | succ i =>
      simp at h
      have := lv_args_at vs (j + 1) ha.2 i v h
      refine List.mem_cons_of_mem _ ?_
      rw [if_neg (by omega)]
      rw [show j + (i + 1) = j + 1 + i by omega]
      exact this
theorem m_go {l : Launch} {D : va_G} {t : gT} {ad : Nat → Nat} {y : MethodName} {b : ByteArray} {n : Nat} {ret : Option FieldType} {rm : Room} {av : List Value} {G : gG} {Qc : Array Value → State → Outcome → State → Prop} (hI : gI ad) (own : String) (ho : y.cls = own) (hy : plainName y.cls = true) (hrc : rm.cells = 0 ∧ rm.slots = 0) (hlen : (lg_sl av).length ≤ n) (hav : av.all (fun v => v.category == 1) = true) (Lv : List (Option Value)) (hLv : Lv = av.map some ++ List.replicate (n - av.length) none)
    (body : ∀ (p : Program) (e : Env) (s : State) (m : MethodId) (args : Array Value) (below : List Frame) (meth : Method) (c : Code), gC p s m args meth c b own n ret (isW ad) D t ad → V p l e rm s m args below meth c (isW ad) D t ad 0 0 n (MQ below Qc args s 0 0 (isW ad)) G 0 Lv []) : Met l y (wM y b n ret) rm (va_Pc av (gP D t ad G)) Qc 0 0 (isW ad) := by
  subst ho
  refine m_in hI hy hrc hlen (lv_args_all av 0 hav) Lv (fun i v hv => ?_) body
  subst hLv
  by_cases hi : i < av.length
  · rw [List.getElem?_append_left (by simpa using hi)] at hv
    have := lv_args_at av 0 hav i v (by simpa using hv)
    simpa using this
  · rw [List.getElem?_append_right (by simpa using hi)] at hv
    have := List.mem_of_getElem? hv
    simp at this
def wkl : List (Option Value) → List (Option Value) → Prop
  | [], _ => True
  | none :: a, _ :: b => wkl a b
  | some v :: a, some w :: b => v = w ∧ wkl a b
  | _, _ => False
theorem wk_of : ∀ {L L' : List (Option Value)}, wkl L L' → ∀ (i : Nat) (v : Value), L[i]? = some (some v) → L'[i]? = some (some v)
  | [], L', _, i, v, h => by simp at h
  | none :: a, [], h, _, _, _ => False.elim (by simp [wkl] at h)
  | none :: a, o :: b, h, i, v, hv => by
    cases i with
    | zero => simp at hv
    | succ i =>
      simp at hv ⊢
      exact wk_of (L := a) (L' := b) (by cases o <;> exact h) i v hv
  | some w :: a, [], h, _, _, _ => False.elim (by simp [wkl] at h)
  | some w :: a, none :: b, h, _, _, _ => False.elim (by simp [wkl] at h)
  | some w :: a, some u :: b, h, i, v, hv => by
    obtain ⟨h1, h2⟩ := (h : w = u ∧ wkl a b)
    cases i with
    | zero => simp at hv ⊢; rw [← h1]; exact hv
    | succ i =>
      simp at hv ⊢
      exact wk_of h2 i v hv
-- the words of the functions that a program reads off the code
def gin (i : Int32) (N : Nat) : Bool := !(decide (i < 0) || decide (N ≤ i.toNatClampNeg))
theorem gin_in {i : Int32} {N : Nat} (h : gin i N = true) : vp_in i N := by
  simpa [gin, vp_in] using h
def isMB (k : Nat) : Bool := decide (k < 63) && decide (k % 9 = 0)
theorem isMB_m {k : Nat} (h : isMB k = true) : isM k := by simpa [isMB, isM] using h
def nbB (r : Int32) : Bool := decide (r = 0) || decide (r = 1)
theorem nbB_n {r : Int32} (h : nbB r = true) : nb r := by simpa [nbB, nb] using h
theorem g_if {α : Type} {b : Bool} {x : Option α} {o : α} (h : (if b = true then x else none) = some o) : b = true ∧ x = some o := by
  cases b
  · simp at h
  · exact ⟨rfl, by simpa using h⟩
theorem ite_p {α : Sort _} {c : Prop} [Decidable c] {a b x : α} (h : c) (hs : (if c then a else b) = x) : a = x := (if_pos h).symm.trans hs
theorem ite_n {α : Sort _} {c : Prop} [Decidable c] {a b x : α} (h : ¬ c) (hs : (if c then a else b) = x) : b = x := (if_neg h).symm.trans hs
def obp {α : Type} (x : Option Int32) (f : Int32 → Option α) : Option α := match x with
  | some r => f r
  | none => none
theorem obp_e {α : Type} {x : Option Int32} {f : Int32 → Option α} {o : α} (h : obp x f = some o) : ∃ r, x = some r ∧ f r = some o := by
  cases x with
  | none => cases h
  | some r => exact ⟨r, rfl, h⟩
def obi {α : Type} (x : Option (Int32 × gG)) (f : Int32 → gG → Option α) : Option α := match x with
  | some (r, g) => f r g
  | none => none
theorem obi_e {α : Type} {x : Option (Int32 × gG)} {f : Int32 → gG → Option α} {o : α} (h : obi x f = some o) : ∃ r g, x = some (r, g) ∧ f r g = some o := by
  cases x with
  | none => cases h
  | some q => exact ⟨q.1, q.2, rfl, h⟩
def obv {α : Type} (x : Option gG) (f : gG → Option α) : Option α := match x with
  | some g => f g
  | none => none
theorem obv_e {α : Type} {x : Option gG} {f : gG → Option α} {o : α} (h : obv x f = some o) : ∃ g, x = some g ∧ f g = some o := by
  cases x with
  | none => cases h
  | some g => exact ⟨g, rfl, h⟩
theorem so_i {a b : Int32} {g h : gG} (e : some (a, g) = some (b, h)) : a = b ∧ g = h := by cases e; exact ⟨rfl, rfl⟩
theorem so_1 {α : Type} {a b : α} (e : some a = some b) : a = b := by cases e; rfl
theorem ne_toInt {x v : Int32} (h : ¬ x = v) : x.toInt ≠ v.toInt := fun e => h (Int32.toInt_inj.mp e)
def bni {α : Sort _} (x : Int32) (f : Int32 → α) : α := f x
theorem bni_e {α : Sort _} {x : Int32} {f : Int32 → α} {o : α} (h : bni x f = o) : ∃ z, z = x ∧ f z = o := ⟨x, rfl, h⟩
def bng {α : Sort _} (x : gG) (f : gG → α) : α := f x
theorem bng_e {α : Sort _} {x : gG} {f : gG → α} {o : α} (h : bng x f = o) : ∃ z, z = x ∧ f z = o := ⟨x, rfl, h⟩
theorem v_bi {p : Program} {l : Launch} {e : Env} {R : Room} {s : State} {m : MethodId} {args : Array Value} {below : List Frame} {meth : Method} {c : Code} {A : Nat → Prop} {D : va_G} {t : gT} {ad : Nat → Nat} {cells slots n : Nat} {Q : State → Prop} {G : gG} {pc : Nat} {Lv : List (Option Value)} {st : List Value} {x z : Int32} (h : z = x) (kk : V p l e R s m args below meth c A D t ad cells slots n Q G pc Lv (.int z :: st)) : V p l e R s m args below meth c A D t ad cells slots n Q G pc Lv (.int x :: st) := by rw [← h]; exact kk
theorem v_bg {p : Program} {l : Launch} {e : Env} {R : Room} {s : State} {m : MethodId} {args : Array Value} {below : List Frame} {meth : Method} {c : Code} {A : Nat → Prop} {D : va_G} {t : gT} {ad : Nat → Nat} {cells slots n : Nat} {Q : State → Prop} {G G1 : gG} {pc : Nat} {Lv : List (Option Value)} {st : List Value} (h : G1 = G) (kk : V p l e R s m args below meth c A D t ad cells slots n Q G1 pc Lv st) : V p l e R s m args below meth c A D t ad cells slots n Q G pc Lv st := by rw [← h]; exact kk
def FU : Nat := 4000
def obl {α : Type} (x : Option Int64) (f : Int64 → Option α) : Option α := match x with
  | some r => f r
  | none => none
theorem obl_e {α : Type} {x : Option Int64} {f : Int64 → Option α} {o : α} (h : obl x f = some o) : ∃ r, x = some r ∧ f r = some o := by
  cases x with
  | none => cases h
  | some r => exact ⟨r, rfl, h⟩
def nzB (x : Int32) : Bool := !decide (x = 0)
theorem nzB_n {x : Int32} (h : nzB x = true) : ¬ x = 0 := by simpa [nzB] using h
end
