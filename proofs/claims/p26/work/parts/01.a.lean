-- ===== PART A: goes FIRST, ahead of the names: the tables' words, and 'selects' of the private methods out of them =====
/-- a private method of a class that the tables say can be made, by its rows of tables_1 -/
def lw_okq (q : MethodName × Nat) : Prop := (q.1.cls ≠ "java/lang/invoke/MethodHandle" ∧ q.1.cls ≠ "java/lang/invoke/VarHandle") ∧ Cond.instantiable q.1.cls q.2 ∈ tables_1 ∧ Cond.privateMethod q.1 ∈ tables_1 ∧ Cond.instanceMethod q.1 ∈ tables_1
theorem lw_p0 : lw_okq (⟨"BlinkMesh", "spreadWith", "(II)I"⟩, 6) := ⟨⟨by decide +kernel, by decide +kernel⟩, List.mem_of_getElem? (i := 9) (by decide +kernel), List.mem_of_getElem? (i := 174) (by decide +kernel), List.mem_of_getElem? (i := 175) (by decide +kernel)⟩
theorem lw_p1 : lw_okq (⟨"BlinkMesh$Mesh", "grow", "()I"⟩, 15) := ⟨⟨by decide +kernel, by decide +kernel⟩, List.mem_of_getElem? (i := 17) (by decide +kernel), List.mem_of_getElem? (i := 197) (by decide +kernel), List.mem_of_getElem? (i := 198) (by decide +kernel)⟩
theorem lw_p2 : lw_okq (⟨"BlinkMesh$Mesh", "fullPhase", "()I"⟩, 15) := ⟨⟨by decide +kernel, by decide +kernel⟩, List.mem_of_getElem? (i := 17) (by decide +kernel), List.mem_of_getElem? (i := 201) (by decide +kernel), List.mem_of_getElem? (i := 202) (by decide +kernel)⟩
theorem lw_p3 : lw_okq (⟨"BlinkMesh$Mesh", "blink", "(I)V"⟩, 15) := ⟨⟨by decide +kernel, by decide +kernel⟩, List.mem_of_getElem? (i := 17) (by decide +kernel), List.mem_of_getElem? (i := 205) (by decide +kernel), List.mem_of_getElem? (i := 206) (by decide +kernel)⟩
theorem lw_p4 : lw_okq (⟨"BlinkMesh$Mesh", "pushFrom", "(II)I"⟩, 15) := ⟨⟨by decide +kernel, by decide +kernel⟩, List.mem_of_getElem? (i := 17) (by decide +kernel), List.mem_of_getElem? (i := 209) (by decide +kernel), List.mem_of_getElem? (i := 210) (by decide +kernel)⟩
theorem lw_p5 : lw_okq (⟨"BlinkMesh$Mesh", "pushAll", "(I)I"⟩, 15) := ⟨⟨by decide +kernel, by decide +kernel⟩, List.mem_of_getElem? (i := 17) (by decide +kernel), List.mem_of_getElem? (i := 213) (by decide +kernel), List.mem_of_getElem? (i := 214) (by decide +kernel)⟩
theorem lw_p6 : lw_okq (⟨"BlinkMesh$Mesh", "account", "(I)V"⟩, 15) := ⟨⟨by decide +kernel, by decide +kernel⟩, List.mem_of_getElem? (i := 17) (by decide +kernel), List.mem_of_getElem? (i := 220) (by decide +kernel), List.mem_of_getElem? (i := 221) (by decide +kernel)⟩
theorem lw_p7 : lw_okq (⟨"BlinkMesh$Mesh", "pieceOf", "(I)I"⟩, 15) := ⟨⟨by decide +kernel, by decide +kernel⟩, List.mem_of_getElem? (i := 17) (by decide +kernel), List.mem_of_getElem? (i := 261) (by decide +kernel), List.mem_of_getElem? (i := 262) (by decide +kernel)⟩
theorem lw_p8 : lw_okq (⟨"BlinkMesh$Mesh", "neighbours", "(I)I"⟩, 15) := ⟨⟨by decide +kernel, by decide +kernel⟩, List.mem_of_getElem? (i := 17) (by decide +kernel), List.mem_of_getElem? (i := 265) (by decide +kernel), List.mem_of_getElem? (i := 266) (by decide +kernel)⟩
theorem lw_p9 : lw_okq (⟨"BlinkMesh$Mesh", "agreeing", "(I)I"⟩, 15) := ⟨⟨by decide +kernel, by decide +kernel⟩, List.mem_of_getElem? (i := 17) (by decide +kernel), List.mem_of_getElem? (i := 269) (by decide +kernel), List.mem_of_getElem? (i := 270) (by decide +kernel)⟩
theorem lw_p10 : lw_okq (⟨"BlinkMesh", "trialTogetherIn", "()I"⟩, 6) := ⟨⟨by decide +kernel, by decide +kernel⟩, List.mem_of_getElem? (i := 9) (by decide +kernel), List.mem_of_getElem? (i := 325) (by decide +kernel), List.mem_of_getElem? (i := 326) (by decide +kernel)⟩
theorem lw_p11 : lw_okq (⟨"BlinkMesh$History", "dropOldest", "()V"⟩, 2) := ⟨⟨by decide +kernel, by decide +kernel⟩, List.mem_of_getElem? (i := 79) (by decide +kernel), List.mem_of_getElem? (i := 367) (by decide +kernel), List.mem_of_getElem? (i := 368) (by decide +kernel)⟩
def lw_privs_1 : List (MethodName × Nat) := [(⟨"BlinkMesh", "spreadWith", "(II)I"⟩, 6), (⟨"BlinkMesh$Mesh", "grow", "()I"⟩, 15), (⟨"BlinkMesh$Mesh", "fullPhase", "()I"⟩, 15), (⟨"BlinkMesh$Mesh", "blink", "(I)V"⟩, 15), (⟨"BlinkMesh$Mesh", "pushFrom", "(II)I"⟩, 15), (⟨"BlinkMesh$Mesh", "pushAll", "(I)I"⟩, 15), (⟨"BlinkMesh$Mesh", "account", "(I)V"⟩, 15), (⟨"BlinkMesh$Mesh", "pieceOf", "(I)I"⟩, 15), (⟨"BlinkMesh$Mesh", "neighbours", "(I)I"⟩, 15), (⟨"BlinkMesh$Mesh", "agreeing", "(I)I"⟩, 15), (⟨"BlinkMesh", "trialTogetherIn", "()I"⟩, 6), (⟨"BlinkMesh$History", "dropOldest", "()V"⟩, 2)]
theorem lw_r1 : ∀ q ∈ lw_privs_1, lw_okq q := List.forall_mem_cons.mpr ⟨lw_p0, List.forall_mem_cons.mpr ⟨lw_p1, List.forall_mem_cons.mpr ⟨lw_p2, List.forall_mem_cons.mpr ⟨lw_p3, List.forall_mem_cons.mpr ⟨lw_p4, List.forall_mem_cons.mpr ⟨lw_p5, List.forall_mem_cons.mpr ⟨lw_p6, List.forall_mem_cons.mpr ⟨lw_p7, List.forall_mem_cons.mpr ⟨lw_p8, List.forall_mem_cons.mpr ⟨lw_p9, List.forall_mem_cons.mpr ⟨lw_p10, List.forall_mem_cons.mpr ⟨lw_p11, fun _ h => absurd h List.not_mem_nil⟩⟩⟩⟩⟩⟩⟩⟩⟩⟩⟩⟩
def lw_privs : List (MethodName × Nat) := lw_privs_1
def lw_tbl : List Cond := k2_sels lw_privs ++ tables_1
theorem lw_privs_ok : ∀ q ∈ lw_privs, lw_okq q := lw_r1
-- ===== end of PART A; then your names; then what follows =====
theorem goodIn_r {big : List Cond} (ws : List Cond) (ps : List Nat) (hp : ws = ps.filterMap (fun i => big[i]?)) (h : ws.all goodWord = true) : GoodIn big ws := by
  intro w hw
  have h1 := List.all_eq_true.mp h w hw
  rw [hp] at hw
  obtain ⟨i, -, hi⟩ := List.mem_filterMap.mp hw
  have hm : w ∈ big := by first | exact List.mem_of_getElem? hi | exact List.getElem?_mem hi
  exact ⟨hm, good_of_word h1⟩
theorem goodIn_app {big a b : List Cond} (ha : GoodIn big a) (hb : GoodIn big b) : GoodIn big (a ++ b) := fun w h => (List.mem_append.mp h).elim (ha w) (hb w)
theorem goodIn_ca {big a b : List Cond} {c : Cond} (ha : GoodIn big (c :: a)) (hb : GoodIn big b) : GoodIn big (c :: (a ++ b)) := fun w h => (List.mem_cons.mp h).elim (fun e => ha w (List.mem_cons.mpr (Or.inl e))) (fun h => (List.mem_append.mp h).elim (fun h => ha w (List.mem_cons.mpr (Or.inr h))) (hb w))
theorem goodIn_sub {big ws : List Cond} (hm : ∀ w ∈ ws, w ∈ big) (h : ws.all goodWord = true) : GoodIn big ws := fun w hw => ⟨hm w hw, good_of_word (List.all_eq_true.mp h w hw)⟩
def RX0 : String := "BlinkMesh$History"
def TX0 : u_T := fun k => match k with
  | 0 => ("BlinkMesh$History", "states", "[LBlinkMesh$Mesh;", true)
  | _ => ("BlinkMesh$History", "kept", "I", false)
def tyX0 : Nat → FieldType := fun k => match k with
  | 0 => .array (.object "BlinkMesh$Mesh")
  | _ => .int
theorem nmX0 : ∀ a, a < 2 → ∀ b, b < 2 → a ≠ b → (TX0 a).2.1 ≠ (TX0 b).2.1 := by decide +kernel
theorem tyX0_ok : ∀ k, k < 2 → parseFieldDescriptor (TX0 k).2.2.1 = some (tyX0 k) := by decide +kernel
abbrev cX0_init : ByteArray := prog_2_method_1_code
def yX0_init : MethodName := ⟨RX0, "<init>", "()V"⟩
abbrev cX0_size : ByteArray := prog_2_method_2_code
def yX0_size : MethodName := ⟨RX0, "size", "()I"⟩
abbrev cX0_remember : ByteArray := prog_2_method_3_code
def yX0_remember : MethodName := ⟨RX0, "remember", "(LBlinkMesh$Mesh;)V"⟩
abbrev cX0_dropOldest : ByteArray := prog_2_method_4_code
def yX0_dropOldest : MethodName := ⟨RX0, "dropOldest", "()V"⟩
abbrev cX0_takeBack : ByteArray := prog_2_method_5_code
def yX0_takeBack : MethodName := ⟨RX0, "takeBack", "(LBlinkMesh$Mesh;)V"⟩
def RX1 : String := "BlinkMesh$Mesh"
def TX1 : u_T := fun k => match k with
  | 0 => ("BlinkMesh$Mesh", "phase", "[I", true)
  | 1 => ("BlinkMesh$Mesh", "rate", "[I", true)
  | 2 => ("BlinkMesh$Mesh", "deaf", "[I", true)
  | 3 => ("BlinkMesh$Mesh", "linked", "[I", true)
  | 4 => ("BlinkMesh$Mesh", "blinks", "[I", true)
  | 5 => ("BlinkMesh$Mesh", "latest", "[I", true)
  | 6 => ("BlinkMesh$Mesh", "pushes", "[I", true)
  | 7 => ("BlinkMesh$Mesh", "settings", "[I", true)
  | 8 => ("BlinkMesh$Mesh", "there", "I", false)
  | 9 => ("BlinkMesh$Mesh", "on", "I", false)
  | 10 => ("BlinkMesh$Mesh", "tick", "I", false)
  | 11 => ("BlinkMesh$Mesh", "blinkCount", "I", false)
  | 12 => ("BlinkMesh$Mesh", "pushCount", "I", false)
  | 13 => ("BlinkMesh$Mesh", "sharedTicks", "I", false)
  | _ => ("BlinkMesh$Mesh", "mostTogether", "I", false)
def tyX1 : Nat → FieldType := fun k => match k with
  | 0 => .array .int
  | 1 => .array .int
  | 2 => .array .int
  | 3 => .array .int
  | 4 => .array .int
  | 5 => .array .int
  | 6 => .array .int
  | 7 => .array .int
  | 8 => .int
  | 9 => .int
  | 10 => .int
  | 11 => .int
  | 12 => .int
  | 13 => .int
  | _ => .int
theorem nmX1 : ∀ a, a < 15 → ∀ b, b < 15 → a ≠ b → (TX1 a).2.1 ≠ (TX1 b).2.1 := by decide +kernel
theorem tyX1_ok : ∀ k, k < 15 → parseFieldDescriptor (TX1 k).2.2.1 = some (tyX1 k) := by decide +kernel
abbrev cX1_init : ByteArray := prog_3_method_1_code
def yX1_init : MethodName := ⟨RX1, "<init>", "()V"⟩
abbrev cX1_copyFrom : ByteArray := prog_3_method_2_code
def yX1_copyFrom : MethodName := ⟨RX1, "copyFrom", "(LBlinkMesh$Mesh;)V"⟩
abbrev cX1_has : ByteArray := prog_3_method_3_code
def yX1_has : MethodName := ⟨RX1, "has", "(I)Z"⟩
abbrev cX1_isOn : ByteArray := prog_3_method_4_code
def yX1_isOn : MethodName := ⟨RX1, "isOn", "(I)Z"⟩
abbrev cX1_isLinked : ByteArray := prog_3_method_5_code
def yX1_isLinked : MethodName := ⟨RX1, "isLinked", "(II)Z"⟩
abbrev cX1_couldLink : ByteArray := prog_3_method_6_code
def yX1_couldLink : MethodName := ⟨RX1, "couldLink", "(II)Z"⟩
abbrev cX1_isWholePhase : ByteArray := prog_3_method_7_code
def yX1_isWholePhase : MethodName := ⟨RX1, "isWholePhase", "(I)Z"⟩
abbrev cX1_setting : ByteArray := prog_3_method_8_code
def yX1_setting : MethodName := ⟨RX1, "setting", "(I)I"⟩
abbrev cX1_tickNumber : ByteArray := prog_3_method_9_code
def yX1_tickNumber : MethodName := ⟨RX1, "tickNumber", "()I"⟩
abbrev cX1_allBlinks : ByteArray := prog_3_method_10_code
def yX1_allBlinks : MethodName := ⟨RX1, "allBlinks", "()I"⟩
abbrev cX1_lamps : ByteArray := prog_3_method_11_code
def yX1_lamps : MethodName := ⟨RX1, "lamps", "()I"⟩
abbrev cX1_lampsOn : ByteArray := prog_3_method_12_code
def yX1_lampsOn : MethodName := ⟨RX1, "lampsOn", "()I"⟩
abbrev cX1_links : ByteArray := prog_3_method_13_code
def yX1_links : MethodName := ⟨RX1, "links", "()I"⟩
abbrev cX1_freeNumber : ByteArray := prog_3_method_14_code
def yX1_freeNumber : MethodName := ⟨RX1, "freeNumber", "()I"⟩
abbrev cX1_place : ByteArray := prog_3_method_15_code
def yX1_place : MethodName := ⟨RX1, "place", "(III)V"⟩
abbrev cX1_remove : ByteArray := prog_3_method_16_code
def yX1_remove : MethodName := ⟨RX1, "remove", "(I)I"⟩
abbrev cX1_switchTo : ByteArray := prog_3_method_18_code
def yX1_switchTo : MethodName := ⟨RX1, "switchTo", "(IZ)V"⟩
abbrev cX1_changeLink : ByteArray := prog_3_method_19_code
def yX1_changeLink : MethodName := ⟨RX1, "changeLink", "(IIZ)V"⟩
abbrev cX1_retune : ByteArray := prog_3_method_20_code
def yX1_retune : MethodName := ⟨RX1, "retune", "(III)I"⟩
abbrev cX1_changeSetting : ByteArray := prog_3_method_21_code
def yX1_changeSetting : MethodName := ⟨RX1, "changeSetting", "(II)I"⟩
abbrev cX1_fitPhases : ByteArray := prog_3_method_22_code
def yX1_fitPhases : MethodName := ⟨RX1, "fitPhases", "()V"⟩
abbrev cX1_fullPhase : ByteArray := prog_3_method_23_code
def yX1_fullPhase : MethodName := ⟨RX1, "fullPhase", "()I"⟩
abbrev cX1_tickOften : ByteArray := prog_3_method_24_code
def yX1_tickOften : MethodName := ⟨RX1, "tickOften", "(I)V"⟩
abbrev cX1_tickOnce : ByteArray := prog_3_method_25_code
def yX1_tickOnce : MethodName := ⟨RX1, "tickOnce", "()I"⟩
abbrev cX1_grow : ByteArray := prog_3_method_26_code
def yX1_grow : MethodName := ⟨RX1, "grow", "()I"⟩
abbrev cX1_blink : ByteArray := prog_3_method_27_code
def yX1_blink : MethodName := ⟨RX1, "blink", "(I)V"⟩
abbrev cX1_pushFrom : ByteArray := prog_3_method_28_code
def yX1_pushFrom : MethodName := ⟨RX1, "pushFrom", "(II)I"⟩
abbrev cX1_pushAll : ByteArray := prog_3_method_29_code
def yX1_pushAll : MethodName := ⟨RX1, "pushAll", "(I)I"⟩
abbrev cX1_account : ByteArray := prog_3_method_30_code
def yX1_account : MethodName := ⟨RX1, "account", "(I)V"⟩
abbrev cX1_distance : ByteArray := prog_3_method_31_code
def yX1_distance : MethodName := ⟨RX1, "distance", "(II)I"⟩
abbrev cX1_greatestDistance : ByteArray := prog_3_method_32_code
def yX1_greatestDistance : MethodName := ⟨RX1, "greatestDistance", "()I"⟩
abbrev cX1_isTogether : ByteArray := prog_3_method_33_code
def yX1_isTogether : MethodName := ⟨RX1, "isTogether", "()Z"⟩
abbrev cX1_hasUnlikeRates : ByteArray := prog_3_method_34_code
def yX1_hasUnlikeRates : MethodName := ⟨RX1, "hasUnlikeRates", "()Z"⟩
abbrev cX1_pieceOf : ByteArray := prog_3_method_35_code
def yX1_pieceOf : MethodName := ⟨RX1, "pieceOf", "(I)I"⟩
abbrev cX1_neighbours : ByteArray := prog_3_method_36_code
def yX1_neighbours : MethodName := ⟨RX1, "neighbours", "(I)I"⟩
abbrev cX1_pieces : ByteArray := prog_3_method_37_code
def yX1_pieces : MethodName := ⟨RX1, "pieces", "()I"⟩
abbrev cX1_agreeing : ByteArray := prog_3_method_38_code
def yX1_agreeing : MethodName := ⟨RX1, "agreeing", "(I)I"⟩
abbrev cX1_lampWithMostLinks : ByteArray := prog_3_method_39_code
def yX1_lampWithMostLinks : MethodName := ⟨RX1, "lampWithMostLinks", "()I"⟩
abbrev cX1_tellLamp : ByteArray := prog_3_method_40_code
def yX1_tellLamp : MethodName := ⟨RX1, "tellLamp", "(II)I"⟩
abbrev cX1_tellMesh : ByteArray := prog_3_method_41_code
def yX1_tellMesh : MethodName := ⟨RX1, "tellMesh", "(I)I"⟩
def RX2 : String := "BlinkMesh$MeshText"
def TX2 : u_T := fun k => match k with
  | 0 => ("BlinkMesh$MeshText", "characters", "[C", true)
  | 1 => ("BlinkMesh$MeshText", "length", "I", false)
  | 2 => ("BlinkMesh$MeshText", "place", "I", false)
  | 3 => ("BlinkMesh$MeshText", "phase", "[I", true)
  | 4 => ("BlinkMesh$MeshText", "rate", "[I", true)
  | 5 => ("BlinkMesh$MeshText", "lampCount", "I", false)
  | _ => ("BlinkMesh$MeshText", "linked", "[I", true)
def tyX2 : Nat → FieldType := fun k => match k with
  | 0 => .array .char
  | 1 => .int
  | 2 => .int
  | 3 => .array .int
  | 4 => .array .int
  | 5 => .int
  | _ => .array .int
theorem nmX2 : ∀ a, a < 7 → ∀ b, b < 7 → a ≠ b → (TX2 a).2.1 ≠ (TX2 b).2.1 := by decide +kernel
theorem tyX2_ok : ∀ k, k < 7 → parseFieldDescriptor (TX2 k).2.2.1 = some (tyX2 k) := by decide +kernel
abbrev cX2_init : ByteArray := prog_4_method_1_code
def yX2_init : MethodName := ⟨RX2, "<init>", "()V"⟩
abbrev cX2_length : ByteArray := prog_4_method_2_code
def yX2_length : MethodName := ⟨RX2, "length", "()I"⟩
def RX3 : String := "BlinkMesh"
def TX3 : u_T := fun k => match k with
  | 0 => ("BlinkMesh", "mesh", "LBlinkMesh$Mesh;", true)
  | 1 => ("BlinkMesh", "trial", "LBlinkMesh$Mesh;", true)
  | 2 => ("BlinkMesh", "snapshot", "LBlinkMesh$Mesh;", true)
  | 3 => ("BlinkMesh", "hasSnapshot", "Z", false)
  | 4 => ("BlinkMesh", "history", "LBlinkMesh$History;", true)
  | _ => ("BlinkMesh", "text", "LBlinkMesh$MeshText;", true)
def tyX3 : Nat → FieldType := fun k => match k with
  | 0 => .object "BlinkMesh$Mesh"
  | 1 => .object "BlinkMesh$Mesh"
  | 2 => .object "BlinkMesh$Mesh"
  | 3 => .boolean
  | 4 => .object "BlinkMesh$History"
  | _ => .object "BlinkMesh$MeshText"
theorem nmX3 : ∀ a, a < 6 → ∀ b, b < 6 → a ≠ b → (TX3 a).2.1 ≠ (TX3 b).2.1 := by decide +kernel
theorem tyX3_ok : ∀ k, k < 6 → parseFieldDescriptor (TX3 k).2.2.1 = some (tyX3 k) := by decide +kernel
abbrev cX3_init : ByteArray := prog_1_method_1_code
def yX3_init : MethodName := ⟨RX3, "<init>", "()V"⟩
abbrev cX3_come : ByteArray := prog_1_method_2_code
def yX3_come : MethodName := ⟨RX3, "come", "(II)I"⟩
abbrev cX3_goAway : ByteArray := prog_1_method_3_code
def yX3_goAway : MethodName := ⟨RX3, "goAway", "(I)I"⟩
abbrev cX3_turn : ByteArray := prog_1_method_4_code
def yX3_turn : MethodName := ⟨RX3, "turn", "(IZ)I"⟩
abbrev cX3_link : ByteArray := prog_1_method_5_code
def yX3_link : MethodName := ⟨RX3, "link", "(IIZ)I"⟩
abbrev cX3_tune : ByteArray := prog_1_method_6_code
def yX3_tune : MethodName := ⟨RX3, "tune", "(III)I"⟩
abbrev cX3_set : ByteArray := prog_1_method_7_code
def yX3_set : MethodName := ⟨RX3, "set", "(II)I"⟩
abbrev cX3_pass : ByteArray := prog_1_method_8_code
def yX3_pass : MethodName := ⟨RX3, "pass", "(I)I"⟩
abbrev cX3_undo : ByteArray := prog_1_method_12_code
def yX3_undo : MethodName := ⟨RX3, "undo", "()I"⟩
abbrev cX3_lamp : ByteArray := prog_1_method_15_code
def yX3_lamp : MethodName := ⟨RX3, "lamp", "(II)I"⟩
abbrev cX3_apart : ByteArray := prog_1_method_16_code
def yX3_apart : MethodName := ⟨RX3, "apart", "(II)I"⟩
abbrev cX3_next : ByteArray := prog_1_method_17_code
def yX3_next : MethodName := ⟨RX3, "next", "(I)I"⟩
abbrev cX3_togetherIn : ByteArray := prog_1_method_18_code
def yX3_togetherIn : MethodName := ⟨RX3, "togetherIn", "()I"⟩
abbrev cX3_reason : ByteArray := prog_1_method_19_code
def yX3_reason : MethodName := ⟨RX3, "reason", "()I"⟩
abbrev cX3_spread : ByteArray := prog_1_method_20_code
def yX3_spread : MethodName := ⟨RX3, "spread", "()I"⟩
abbrev cX3_ifLinked : ByteArray := prog_1_method_21_code
def yX3_ifLinked : MethodName := ⟨RX3, "ifLinked", "(II)I"⟩
abbrev cX3_hub : ByteArray := prog_1_method_22_code
def yX3_hub : MethodName := ⟨RX3, "hub", "()I"⟩
abbrev cX3_bestLink : ByteArray := prog_1_method_23_code
def yX3_bestLink : MethodName := ⟨RX3, "bestLink", "(I)I"⟩
abbrev cX3_count : ByteArray := prog_1_method_24_code
def yX3_count : MethodName := ⟨RX3, "count", "(I)I"⟩
abbrev cX3_isRate : ByteArray := prog_1_method_25_code
def yX3_isRate : MethodName := ⟨RX3, "isRate", "(I)Z"⟩
abbrev cX3_holds : ByteArray := prog_1_method_26_code
def yX3_holds : MethodName := ⟨RX3, "holds", "(II)Z"⟩
abbrev cX3_trialTogetherIn : ByteArray := prog_1_method_27_code
def yX3_trialTogetherIn : MethodName := ⟨RX3, "trialTogetherIn", "()I"⟩
abbrev cX3_spreadWith : ByteArray := prog_1_method_28_code
def yX3_spreadWith : MethodName := ⟨RX3, "spreadWith", "(II)I"⟩
def RX4 : String := "BlinkMeshModel"
def TX4 : u_T := fun k => match k with
  | _ => ("", "", "", false)
def tyX4 : Nat → FieldType := fun k => match k with
  | _ => .int
theorem nmX4 : ∀ a, a < 0 → ∀ b, b < 0 → a ≠ b → (TX4 a).2.1 ≠ (TX4 b).2.1 := by decide +kernel
theorem tyX4_ok : ∀ k, k < 0 → parseFieldDescriptor (TX4 k).2.2.1 = some (tyX4 k) := by decide +kernel
def RJx8e188 : String := "java/lang/Cloneable"
def RJ6 : String := "java/lang/Integer"
abbrev cJ6_bitCount_0f7a4 : ByteArray := prog_8_method_49_code
def yJ6_bitCount_0f7a4 : MethodName := ⟨RJ6, "bitCount", "(I)I"⟩
def RJ9 : String := "java/lang/Math"
abbrev cJ9_abs_0f7a4 : ByteArray := prog_9_method_59_code
def yJ9_abs_0f7a4 : MethodName := ⟨RJ9, "abs", "(I)I"⟩
abbrev cJ9_max_7cf53 : ByteArray := prog_9_method_65_code
def yJ9_max_7cf53 : MethodName := ⟨RJ9, "max", "(II)I"⟩
abbrev cJ9_min_7cf53 : ByteArray := prog_9_method_69_code
def yJ9_min_7cf53 : MethodName := ⟨RJ9, "min", "(II)I"⟩
def RJ10 : String := "java/lang/System"
def RL : String := "BlinkMeshLaw"
abbrev cL_cell : ByteArray := method_2_code
def yL_cell : MethodName := ⟨RL, "cell", "([II)I"⟩
abbrev cL_low : ByteArray := method_3_code
def yL_low : MethodName := ⟨RL, "low", "(II)I"⟩
abbrev cL_isOn : ByteArray := method_4_code
def yL_isOn : MethodName := ⟨RL, "isOn", "(LBlinkMesh;I)Z"⟩
abbrev cL_isThere : ByteArray := method_5_code
def yL_isThere : MethodName := ⟨RL, "isThere", "(LBlinkMesh;I)Z"⟩
abbrev cL_isLamp : ByteArray := method_6_code
def yL_isLamp : MethodName := ⟨RL, "isLamp", "(LBlinkMesh;I)Z"⟩
abbrev cL_holds : ByteArray := method_7_code
def yL_holds : MethodName := ⟨RL, "holds", "(LBlinkMesh;)Z"⟩
abbrev cL_tale : ByteArray := method_8_code
def yL_tale : MethodName := ⟨RL, "tale", "(LBlinkMesh;)J"⟩
abbrev cL_nextSo : ByteArray := method_9_code
def yL_nextSo : MethodName := ⟨RL, "nextSo", "(LBlinkMesh;)Z"⟩
abbrev cL_togetherSo : ByteArray := method_10_code
def yL_togetherSo : MethodName := ⟨RL, "togetherSo", "(LBlinkMesh;)Z"⟩
abbrev cL_linkedSo : ByteArray := method_11_code
def yL_linkedSo : MethodName := ⟨RL, "linkedSo", "(LBlinkMesh;II)Z"⟩
abbrev cL_bestSo : ByteArray := method_12_code
def yL_bestSo : MethodName := ⟨RL, "bestSo", "(LBlinkMesh;)Z"⟩
abbrev cL_passSo : ByteArray := method_13_code
def yL_passSo : MethodName := ⟨RL, "passSo", "(LBlinkMesh;II)Z"⟩
abbrev cL_twins : ByteArray := method_14_code
def yL_twins : MethodName := ⟨RL, "twins", "(LBlinkMesh;I)Z"⟩
abbrev cL_act : ByteArray := method_15_code
def yL_act : MethodName := ⟨RL, "act", "(LBlinkMesh;II)Z"⟩
abbrev cL_law : ByteArray := code
def yL_law : MethodName := ⟨RL, "law", "([I)Z"⟩
abbrev vwCl : List vw_C := [(RX0, TX0, 2), (RX1, TX1, 15), (RX2, TX2, 7), (RX3, TX3, 6)]
