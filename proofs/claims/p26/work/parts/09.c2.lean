def sh_X3_come (l1 : Int32) (l2 : Int32) (G : gG) : Option (Int32 × gG) := (obp (sh_X1_isWholePhase 0 l1 G) fun r2 => (if r2 = (0 : Int32) then some ((-2 : Int32), G) else (if (sh_X3_isRate l2) = (0 : Int32) then some ((-2 : Int32), G) else (obp (sh_X1_freeNumber 0 G) fun r4 => (if r4 = (-1 : Int32) then some ((-3 : Int32), G) else (obv (sh_X0_remember 0 G) fun G6 => (obv (sh_X1_place 0 r4 l1 l2 G6) fun G8 => some (r4, G8))))))))
set_option maxRecDepth 100000 in
set_option maxHeartbeats 4000000 in
theorem c_X3_come (l : Launch) (D : va_G) (t : gT) (ad : Nat → Nat) (hI : gI ad) {l1 : Int32} {l2 : Int32} {G : gG} {r0 : Int32} {G0 : gG} (hsh : sh_X3_come l1 l2 G = some (r0, G0)) : Mi l D t ad yX3_come cX3_come 4 (some .int) (rM 3 68) [.ref (ad 70), .int l1, .int l2] G r0 G0 := by
  refine m_go hI RX3 rfl (by decide +kernel) ⟨rfl, rfl⟩ (Nat.le_of_ble_eq_true rfl) rfl [some (.ref (ad 70)), some (.int l1), some (.int l2), none] rfl (fun p e s m args below meth c C => ?_)
  unfold sh_X3_come at hsh
  refine v_aloadn C dX3_come_0 rfl ?_
  refine f3_0 C dX3_come_1 ?_
  refine v_iloadn C dX3_come_4 rfl ?_
  obtain ⟨r2, e1, hsh⟩ := obp_e hsh
  refine v_callI (nP := 1) (k := 0) C (isM_lt (f := 0) isM0 (by decide)) (ce_m isM0) rfl (c_X1_isWholePhase l D t ad hI isM0 e1) k400 k397 k398 k399 k2 yo_X1_isWholePhase ⟨Nat.le_of_ble_eq_true rfl, Nat.le_of_ble_eq_true rfl, rfl, rfl, Nat.zero_le _, Nat.zero_le _⟩ rfl rfl (Nat.le_of_ble_eq_true rfl) dX3_come_5 ?_
  refine v_if_eq C 18 dX3_come_8 (by decide) (fun hc => ?_) (fun hc => ?_)
  · replace hsh := ite_p hc hsh
    refine v_bipush C dX3_come_18 (v := -2) (by decide) ?_
    obtain ⟨rfl, rfl⟩ := so_i hsh
    exact v_iret C dX3_come_20
  · replace hsh := ite_n hc hsh
    refine v_iloadn C dX3_come_11 rfl ?_
    refine v_callS (nP := 1) C (c_X3_isRate l D t ad hI  (G := G) rfl) k403 k401 k402 k1 yo_X3_isRate ⟨Nat.le_of_ble_eq_true rfl, Nat.le_of_ble_eq_true rfl, rfl, rfl, Nat.zero_le _, Nat.zero_le _⟩ rfl rfl (Nat.le_of_ble_eq_true rfl) dX3_come_12 ?_
    refine v_if_ne C 21 dX3_come_15 (by decide) (fun hc => ?_) (fun hc => ?_)
    · replace hsh := ite_n hc hsh
      refine v_aloadn C dX3_come_21 rfl ?_
      refine f3_0 C dX3_come_22 ?_
      obtain ⟨r4, e3, hsh⟩ := obp_e hsh
      refine v_callI (nP := 0) (k := 0) C (isM_lt (f := 0) isM0 (by decide)) (ce_m isM0) rfl (c_X1_freeNumber l D t ad hI isM0 e3) k407 k404 k405 k406 k2 yo_X1_freeNumber ⟨Nat.le_of_ble_eq_true rfl, Nat.le_of_ble_eq_true rfl, rfl, rfl, Nat.zero_le _, Nat.zero_le _⟩ rfl rfl (Nat.le_of_ble_eq_true rfl) dX3_come_25 ?_
      refine v_istoren C dX3_come_28 (by decide) ?_
      refine v_iloadn C dX3_come_29 rfl ?_
      refine v_iconst C dX3_come_30 (v := -1) (by decide) ?_
      refine v_ic_ne C 37 dX3_come_31 (by decide) (fun hc => ?_) (fun hc => ?_)
      · replace hsh := ite_n hc hsh
        refine v_aloadn C dX3_come_37 rfl ?_
        refine f3_4 C dX3_come_38 ?_
        refine v_aloadn C dX3_come_41 rfl ?_
        refine f3_0 C dX3_come_42 ?_
        obtain ⟨G6, e5, hsh⟩ := obv_e hsh
        refine v_callV (nP := 1) (k := 63) C (by decide) rfl rfl (c_X0_remember l D t ad hI isM0 e5) k365 k362 k363 k364 k3 yo_X0_remember ⟨Nat.le_of_ble_eq_true rfl, Nat.le_of_ble_eq_true rfl, rfl, rfl, Nat.zero_le _, Nat.zero_le _⟩ rfl rfl (Nat.le_of_ble_eq_true rfl) dX3_come_45 ?_
        refine v_aloadn C dX3_come_48 rfl ?_
        refine f3_0 C dX3_come_49 ?_
        refine v_iloadn C dX3_come_52 rfl ?_
        refine v_iloadn C dX3_come_53 rfl ?_
        refine v_iloadn C dX3_come_54 rfl ?_
        obtain ⟨G8, e7, hsh⟩ := obv_e hsh
        refine v_callV (nP := 3) (k := 0) C (isM_lt (f := 0) isM0 (by decide)) (ce_m isM0) rfl (c_X1_place l D t ad hI isM0 e7) k411 k408 k409 k410 k2 yo_X1_place ⟨Nat.le_of_ble_eq_true rfl, Nat.le_of_ble_eq_true rfl, rfl, rfl, Nat.zero_le _, Nat.zero_le _⟩ rfl rfl (Nat.le_of_ble_eq_true rfl) dX3_come_55 ?_
        refine v_iloadn C dX3_come_58 rfl ?_
        obtain ⟨rfl, rfl⟩ := so_i hsh
        exact v_iret C dX3_come_59
      · replace hsh := ite_p hc hsh
        refine v_bipush C dX3_come_34 (v := -3) (by decide) ?_
        obtain ⟨rfl, rfl⟩ := so_i hsh
        exact v_iret C dX3_come_36
    · replace hsh := ite_p hc hsh
      refine v_bipush C dX3_come_18 (v := -2) (by decide) ?_
      obtain ⟨rfl, rfl⟩ := so_i hsh
      exact v_iret C dX3_come_20
theorem yo_X3_come : yOk yX3_come 2 := ⟨by decide, by decide, by decide +kernel⟩

def sh_X3_goAway (l1 : Int32) (G : gG) : Option (Int32 × gG) := (if (sh_X1_has 0 l1 G) = (0 : Int32) then some ((-1 : Int32), G) else (obv (sh_X0_remember 0 G) fun G2 => (obi (sh_X1_remove 0 l1 G2) fun r4 G5 => some (r4, G5))))
set_option maxRecDepth 100000 in
set_option maxHeartbeats 4000000 in
theorem c_X3_goAway (l : Launch) (D : va_G) (t : gT) (ad : Nat → Nat) (hI : gI ad) {l1 : Int32} {G : gG} {r0 : Int32} {G0 : gG} (hsh : sh_X3_goAway l1 G = some (r0, G0)) : Mi l D t ad yX3_goAway cX3_goAway 2 (some .int) (rM 3 68) [.ref (ad 70), .int l1] G r0 G0 := by
  refine m_go hI RX3 rfl (by decide +kernel) ⟨rfl, rfl⟩ (Nat.le_of_ble_eq_true rfl) rfl [some (.ref (ad 70)), some (.int l1)] rfl (fun p e s m args below meth c C => ?_)
  unfold sh_X3_goAway at hsh
  refine v_aloadn C dX3_goAway_0 rfl ?_
  refine f3_0 C dX3_goAway_1 ?_
  refine v_iloadn C dX3_goAway_4 rfl ?_
  refine v_callI (nP := 1) (k := 0) C (isM_lt (f := 0) isM0 (by decide)) (ce_m isM0) rfl (c_X1_has l D t ad hI isM0 rfl) k255 k252 k253 k254 k2 yo_X1_has ⟨Nat.le_of_ble_eq_true rfl, Nat.le_of_ble_eq_true rfl, rfl, rfl, Nat.zero_le _, Nat.zero_le _⟩ rfl rfl (Nat.le_of_ble_eq_true rfl) dX3_goAway_5 ?_
  refine v_if_ne C 13 dX3_goAway_8 (by decide) (fun hc => ?_) (fun hc => ?_)
  · replace hsh := ite_n hc hsh
    refine v_aloadn C dX3_goAway_13 rfl ?_
    refine f3_4 C dX3_goAway_14 ?_
    refine v_aloadn C dX3_goAway_17 rfl ?_
    refine f3_0 C dX3_goAway_18 ?_
    obtain ⟨G2, e1, hsh⟩ := obv_e hsh
    refine v_callV (nP := 1) (k := 63) C (by decide) rfl rfl (c_X0_remember l D t ad hI isM0 e1) k365 k362 k363 k364 k3 yo_X0_remember ⟨Nat.le_of_ble_eq_true rfl, Nat.le_of_ble_eq_true rfl, rfl, rfl, Nat.zero_le _, Nat.zero_le _⟩ rfl rfl (Nat.le_of_ble_eq_true rfl) dX3_goAway_21 ?_
    refine v_aloadn C dX3_goAway_24 rfl ?_
    refine f3_0 C dX3_goAway_25 ?_
    refine v_iloadn C dX3_goAway_28 rfl ?_
    obtain ⟨r4, G5, e3, hsh⟩ := obi_e hsh
    refine v_callI (nP := 1) (k := 0) C (isM_lt (f := 0) isM0 (by decide)) (ce_m isM0) rfl (c_X1_remove l D t ad hI isM0 e3) k424 k421 k422 k423 k2 yo_X1_remove ⟨Nat.le_of_ble_eq_true rfl, Nat.le_of_ble_eq_true rfl, rfl, rfl, Nat.zero_le _, Nat.zero_le _⟩ rfl rfl (Nat.le_of_ble_eq_true rfl) dX3_goAway_29 ?_
    obtain ⟨rfl, rfl⟩ := so_i hsh
    exact v_iret C dX3_goAway_32
  · replace hsh := ite_p hc hsh
    refine v_iconst C dX3_goAway_11 (v := -1) (by decide) ?_
    obtain ⟨rfl, rfl⟩ := so_i hsh
    exact v_iret C dX3_goAway_12
theorem yo_X3_goAway : yOk yX3_goAway 1 := ⟨by decide, by decide, by decide +kernel⟩

def sh_X3_turn (l1 : Int32) (l2 : Int32) (G : gG) : Option (Int32 × gG) := (if (sh_X1_has 0 l1 G) = (0 : Int32) then some ((-1 : Int32), G) else (if (sh_X1_isOn 0 l1 G) = l2 then some ((-5 : Int32), G) else (obv (sh_X0_remember 0 G) fun G2 => (obv (sh_X1_switchTo 0 l1 l2 G2) fun G4 => some ((sh_X1_lampsOn 0 G4), G4)))))
set_option maxRecDepth 100000 in
set_option maxHeartbeats 4000000 in
theorem c_X3_turn (l : Launch) (D : va_G) (t : gT) (ad : Nat → Nat) (hI : gI ad) {l1 : Int32} {l2 : Int32} {G : gG} {r0 : Int32} {G0 : gG} (hsh : sh_X3_turn l1 l2 G = some (r0, G0)) : Mi l D t ad yX3_turn cX3_turn 3 (some .int) (rM 3 68) [.ref (ad 70), .int l1, .int l2] G r0 G0 := by
  refine m_go hI RX3 rfl (by decide +kernel) ⟨rfl, rfl⟩ (Nat.le_of_ble_eq_true rfl) rfl [some (.ref (ad 70)), some (.int l1), some (.int l2)] rfl (fun p e s m args below meth c C => ?_)
  unfold sh_X3_turn at hsh
  refine v_aloadn C dX3_turn_0 rfl ?_
  refine f3_0 C dX3_turn_1 ?_
  refine v_iloadn C dX3_turn_4 rfl ?_
  refine v_callI (nP := 1) (k := 0) C (isM_lt (f := 0) isM0 (by decide)) (ce_m isM0) rfl (c_X1_has l D t ad hI isM0 rfl) k255 k252 k253 k254 k2 yo_X1_has ⟨Nat.le_of_ble_eq_true rfl, Nat.le_of_ble_eq_true rfl, rfl, rfl, Nat.zero_le _, Nat.zero_le _⟩ rfl rfl (Nat.le_of_ble_eq_true rfl) dX3_turn_5 ?_
  refine v_if_ne C 13 dX3_turn_8 (by decide) (fun hc => ?_) (fun hc => ?_)
  · replace hsh := ite_n hc hsh
    refine v_aloadn C dX3_turn_13 rfl ?_
    refine f3_0 C dX3_turn_14 ?_
    refine v_iloadn C dX3_turn_17 rfl ?_
    refine v_callI (nP := 1) (k := 0) C (isM_lt (f := 0) isM0 (by decide)) (ce_m isM0) rfl (c_X1_isOn l D t ad hI isM0 rfl) k168 k429 k166 k167 k2 yo_X1_isOn ⟨Nat.le_of_ble_eq_true rfl, Nat.le_of_ble_eq_true rfl, rfl, rfl, Nat.zero_le _, Nat.zero_le _⟩ rfl rfl (Nat.le_of_ble_eq_true rfl) dX3_turn_18 ?_
    refine v_iloadn C dX3_turn_21 rfl ?_
    refine v_ic_ne C 28 dX3_turn_22 (by decide) (fun hc => ?_) (fun hc => ?_)
    · replace hsh := ite_n hc hsh
      refine v_aloadn C dX3_turn_28 rfl ?_
      refine f3_4 C dX3_turn_29 ?_
      refine v_aloadn C dX3_turn_32 rfl ?_
      refine f3_0 C dX3_turn_33 ?_
      obtain ⟨G2, e1, hsh⟩ := obv_e hsh
      refine v_callV (nP := 1) (k := 63) C (by decide) rfl rfl (c_X0_remember l D t ad hI isM0 e1) k365 k362 k363 k364 k3 yo_X0_remember ⟨Nat.le_of_ble_eq_true rfl, Nat.le_of_ble_eq_true rfl, rfl, rfl, Nat.zero_le _, Nat.zero_le _⟩ rfl rfl (Nat.le_of_ble_eq_true rfl) dX3_turn_36 ?_
      refine v_aloadn C dX3_turn_39 rfl ?_
      refine f3_0 C dX3_turn_40 ?_
      refine v_iloadn C dX3_turn_43 rfl ?_
      refine v_iloadn C dX3_turn_44 rfl ?_
      obtain ⟨G4, e3, hsh⟩ := obv_e hsh
      refine v_callV (nP := 2) (k := 0) C (isM_lt (f := 0) isM0 (by decide)) (ce_m isM0) rfl (c_X1_switchTo l D t ad hI isM0 e3) k433 k430 k431 k432 k2 yo_X1_switchTo ⟨Nat.le_of_ble_eq_true rfl, Nat.le_of_ble_eq_true rfl, rfl, rfl, Nat.zero_le _, Nat.zero_le _⟩ rfl rfl (Nat.le_of_ble_eq_true rfl) dX3_turn_45 ?_
      refine v_aloadn C dX3_turn_48 rfl ?_
      refine f3_0 C dX3_turn_49 ?_
      refine v_callI (nP := 0) (k := 0) C (isM_lt (f := 0) isM0 (by decide)) (ce_m isM0) rfl (c_X1_lampsOn l D t ad hI isM0 rfl) k303 k319 k301 k302 k2 yo_X1_lampsOn ⟨Nat.le_of_ble_eq_true rfl, Nat.le_of_ble_eq_true rfl, rfl, rfl, Nat.zero_le _, Nat.zero_le _⟩ rfl rfl (Nat.le_of_ble_eq_true rfl) dX3_turn_52 ?_
      obtain ⟨rfl, rfl⟩ := so_i hsh
      exact v_iret C dX3_turn_55
    · replace hsh := ite_p hc hsh
      refine v_bipush C dX3_turn_25 (v := -5) (by decide) ?_
      obtain ⟨rfl, rfl⟩ := so_i hsh
      exact v_iret C dX3_turn_27
  · replace hsh := ite_p hc hsh
    refine v_iconst C dX3_turn_11 (v := -1) (by decide) ?_
    obtain ⟨rfl, rfl⟩ := so_i hsh
    exact v_iret C dX3_turn_12
theorem yo_X3_turn : yOk yX3_turn 2 := ⟨by decide, by decide, by decide +kernel⟩

def sh_X3_link (l1 : Int32) (l2 : Int32) (l3 : Int32) (G : gG) : Option (Int32 × gG) := (if (sh_X1_has 0 l1 G) = (0 : Int32) then some ((-1 : Int32), G) else (if (sh_X1_has 0 l2 G) = (0 : Int32) then some ((-1 : Int32), G) else (if l1 = l2 then some ((-2 : Int32), G) else (obp (sh_X1_isLinked 0 l1 l2 G) fun r2 => (if r2 = l3 then some ((-5 : Int32), G) else (obv (sh_X0_remember 0 G) fun G4 => (obv (sh_X1_changeLink 0 l1 l2 l3 G4) fun G6 => (obp (sh_X1_links 0 G6) fun r8 => some (r8, G6)))))))))
set_option maxRecDepth 100000 in
set_option maxHeartbeats 4000000 in
theorem c_X3_link (l : Launch) (D : va_G) (t : gT) (ad : Nat → Nat) (hI : gI ad) {l1 : Int32} {l2 : Int32} {l3 : Int32} {G : gG} {r0 : Int32} {G0 : gG} (hsh : sh_X3_link l1 l2 l3 G = some (r0, G0)) : Mi l D t ad yX3_link cX3_link 4 (some .int) (rM 3 68) [.ref (ad 70), .int l1, .int l2, .int l3] G r0 G0 := by
  refine m_go hI RX3 rfl (by decide +kernel) ⟨rfl, rfl⟩ (Nat.le_of_ble_eq_true rfl) rfl [some (.ref (ad 70)), some (.int l1), some (.int l2), some (.int l3)] rfl (fun p e s m args below meth c C => ?_)
  unfold sh_X3_link at hsh
  refine v_aloadn C dX3_link_0 rfl ?_
  refine f3_0 C dX3_link_1 ?_
  refine v_iloadn C dX3_link_4 rfl ?_
  refine v_callI (nP := 1) (k := 0) C (isM_lt (f := 0) isM0 (by decide)) (ce_m isM0) rfl (c_X1_has l D t ad hI isM0 rfl) k255 k252 k253 k254 k2 yo_X1_has ⟨Nat.le_of_ble_eq_true rfl, Nat.le_of_ble_eq_true rfl, rfl, rfl, Nat.zero_le _, Nat.zero_le _⟩ rfl rfl (Nat.le_of_ble_eq_true rfl) dX3_link_5 ?_
  refine v_if_eq C 22 dX3_link_8 (by decide) (fun hc => ?_) (fun hc => ?_)
  · replace hsh := ite_p hc hsh
    refine v_iconst C dX3_link_22 (v := -1) (by decide) ?_
    obtain ⟨rfl, rfl⟩ := so_i hsh
    exact v_iret C dX3_link_23
  · replace hsh := ite_n hc hsh
    refine v_aloadn C dX3_link_11 rfl ?_
    refine f3_0 C dX3_link_12 ?_
    refine v_iloadn C dX3_link_15 rfl ?_
    refine v_callI (nP := 1) (k := 0) C (isM_lt (f := 0) isM0 (by decide)) (ce_m isM0) rfl (c_X1_has l D t ad hI isM0 rfl) k255 k252 k253 k254 k2 yo_X1_has ⟨Nat.le_of_ble_eq_true rfl, Nat.le_of_ble_eq_true rfl, rfl, rfl, Nat.zero_le _, Nat.zero_le _⟩ rfl rfl (Nat.le_of_ble_eq_true rfl) dX3_link_16 ?_
    refine v_if_ne C 24 dX3_link_19 (by decide) (fun hc => ?_) (fun hc => ?_)
    · replace hsh := ite_n hc hsh
      refine v_iloadn C dX3_link_24 rfl ?_
      refine v_iloadn C dX3_link_25 rfl ?_
      refine v_ic_ne C 32 dX3_link_26 (by decide) (fun hc => ?_) (fun hc => ?_)
      · replace hsh := ite_n hc hsh
        refine v_aloadn C dX3_link_32 rfl ?_
        refine f3_0 C dX3_link_33 ?_
        refine v_iloadn C dX3_link_36 rfl ?_
        refine v_iloadn C dX3_link_37 rfl ?_
        obtain ⟨r2, e1, hsh⟩ := obp_e hsh
        refine v_callI (nP := 2) (k := 0) C (isM_lt (f := 0) isM0 (by decide)) (ce_m isM0) rfl (c_X1_isLinked l D t ad hI isM0 e1) k172 k441 k170 k171 k2 yo_X1_isLinked ⟨Nat.le_of_ble_eq_true rfl, Nat.le_of_ble_eq_true rfl, rfl, rfl, Nat.zero_le _, Nat.zero_le _⟩ rfl rfl (Nat.le_of_ble_eq_true rfl) dX3_link_38 ?_
        refine v_iloadn C dX3_link_41 rfl ?_
        refine v_ic_ne C 48 dX3_link_42 (by decide) (fun hc => ?_) (fun hc => ?_)
        · replace hsh := ite_n hc hsh
          refine v_aloadn C dX3_link_48 rfl ?_
          refine f3_4 C dX3_link_49 ?_
          refine v_aloadn C dX3_link_52 rfl ?_
          refine f3_0 C dX3_link_53 ?_
          obtain ⟨G4, e3, hsh⟩ := obv_e hsh
          refine v_callV (nP := 1) (k := 63) C (by decide) rfl rfl (c_X0_remember l D t ad hI isM0 e3) k365 k362 k363 k364 k3 yo_X0_remember ⟨Nat.le_of_ble_eq_true rfl, Nat.le_of_ble_eq_true rfl, rfl, rfl, Nat.zero_le _, Nat.zero_le _⟩ rfl rfl (Nat.le_of_ble_eq_true rfl) dX3_link_56 ?_
          refine v_aloadn C dX3_link_59 rfl ?_
          refine f3_0 C dX3_link_60 ?_
          refine v_iloadn C dX3_link_63 rfl ?_
          refine v_iloadn C dX3_link_64 rfl ?_
          refine v_iloadn C dX3_link_65 rfl ?_
          obtain ⟨G6, e5, hsh⟩ := obv_e hsh
          refine v_callV (nP := 3) (k := 0) C (isM_lt (f := 0) isM0 (by decide)) (ce_m isM0) rfl (c_X1_changeLink l D t ad hI isM0 e5) k187 k184 k185 k186 k2 yo_X1_changeLink ⟨Nat.le_of_ble_eq_true rfl, Nat.le_of_ble_eq_true rfl, rfl, rfl, Nat.zero_le _, Nat.zero_le _⟩ rfl rfl (Nat.le_of_ble_eq_true rfl) dX3_link_66 ?_
          refine v_aloadn C dX3_link_69 rfl ?_
          refine f3_0 C dX3_link_70 ?_
          obtain ⟨r8, e7, hsh⟩ := obp_e hsh
          refine v_callI (nP := 0) (k := 0) C (isM_lt (f := 0) isM0 (by decide)) (ce_m isM0) rfl (c_X1_links l D t ad hI isM0 e7) k307 k446 k305 k306 k2 yo_X1_links ⟨Nat.le_of_ble_eq_true rfl, Nat.le_of_ble_eq_true rfl, rfl, rfl, Nat.zero_le _, Nat.zero_le _⟩ rfl rfl (Nat.le_of_ble_eq_true rfl) dX3_link_73 ?_
          obtain ⟨rfl, rfl⟩ := so_i hsh
          exact v_iret C dX3_link_76
        · replace hsh := ite_p hc hsh
          refine v_bipush C dX3_link_45 (v := -5) (by decide) ?_
          obtain ⟨rfl, rfl⟩ := so_i hsh
          exact v_iret C dX3_link_47
      · replace hsh := ite_p hc hsh
        refine v_bipush C dX3_link_29 (v := -2) (by decide) ?_
        obtain ⟨rfl, rfl⟩ := so_i hsh
        exact v_iret C dX3_link_31
    · replace hsh := ite_p hc hsh
      refine v_iconst C dX3_link_22 (v := -1) (by decide) ?_
      obtain ⟨rfl, rfl⟩ := so_i hsh
      exact v_iret C dX3_link_23
theorem yo_X3_link : yOk yX3_link 3 := ⟨by decide, by decide, by decide +kernel⟩

def sh_X3_tune (l1 : Int32) (l2 : Int32) (l3 : Int32) (G : gG) : Option (Int32 × gG) := (if (sh_X1_has 0 l1 G) = (0 : Int32) then some ((-1 : Int32), G) else (obp (sh_X1_isWholePhase 0 l2 G) fun r2 => (if r2 = (0 : Int32) then some ((-2 : Int32), G) else (if (sh_X3_isRate l3) = (0 : Int32) then some ((-2 : Int32), G) else (obv (sh_X0_remember 0 G) fun G4 => (obi (sh_X1_retune 0 l1 l2 l3 G4) fun r6 G7 => some (r6, G7)))))))
set_option maxRecDepth 100000 in
set_option maxHeartbeats 4000000 in
theorem c_X3_tune (l : Launch) (D : va_G) (t : gT) (ad : Nat → Nat) (hI : gI ad) {l1 : Int32} {l2 : Int32} {l3 : Int32} {G : gG} {r0 : Int32} {G0 : gG} (hsh : sh_X3_tune l1 l2 l3 G = some (r0, G0)) : Mi l D t ad yX3_tune cX3_tune 4 (some .int) (rM 3 68) [.ref (ad 70), .int l1, .int l2, .int l3] G r0 G0 := by
  refine m_go hI RX3 rfl (by decide +kernel) ⟨rfl, rfl⟩ (Nat.le_of_ble_eq_true rfl) rfl [some (.ref (ad 70)), some (.int l1), some (.int l2), some (.int l3)] rfl (fun p e s m args below meth c C => ?_)
  unfold sh_X3_tune at hsh
  refine v_aloadn C dX3_tune_0 rfl ?_
  refine f3_0 C dX3_tune_1 ?_
  refine v_iloadn C dX3_tune_4 rfl ?_
  refine v_callI (nP := 1) (k := 0) C (isM_lt (f := 0) isM0 (by decide)) (ce_m isM0) rfl (c_X1_has l D t ad hI isM0 rfl) k255 k252 k253 k254 k2 yo_X1_has ⟨Nat.le_of_ble_eq_true rfl, Nat.le_of_ble_eq_true rfl, rfl, rfl, Nat.zero_le _, Nat.zero_le _⟩ rfl rfl (Nat.le_of_ble_eq_true rfl) dX3_tune_5 ?_
  refine v_if_ne C 13 dX3_tune_8 (by decide) (fun hc => ?_) (fun hc => ?_)
  · replace hsh := ite_n hc hsh
    refine v_aloadn C dX3_tune_13 rfl ?_
    refine f3_0 C dX3_tune_14 ?_
    refine v_iloadn C dX3_tune_17 rfl ?_
    obtain ⟨r2, e1, hsh⟩ := obp_e hsh
    refine v_callI (nP := 1) (k := 0) C (isM_lt (f := 0) isM0 (by decide)) (ce_m isM0) rfl (c_X1_isWholePhase l D t ad hI isM0 e1) k400 k397 k398 k399 k2 yo_X1_isWholePhase ⟨Nat.le_of_ble_eq_true rfl, Nat.le_of_ble_eq_true rfl, rfl, rfl, Nat.zero_le _, Nat.zero_le _⟩ rfl rfl (Nat.le_of_ble_eq_true rfl) dX3_tune_18 ?_
    refine v_if_eq C 31 dX3_tune_21 (by decide) (fun hc => ?_) (fun hc => ?_)
    · replace hsh := ite_p hc hsh
      refine v_bipush C dX3_tune_31 (v := -2) (by decide) ?_
      obtain ⟨rfl, rfl⟩ := so_i hsh
      exact v_iret C dX3_tune_33
    · replace hsh := ite_n hc hsh
      refine v_iloadn C dX3_tune_24 rfl ?_
      refine v_callS (nP := 1) C (c_X3_isRate l D t ad hI  (G := G) rfl) k403 k401 k402 k1 yo_X3_isRate ⟨Nat.le_of_ble_eq_true rfl, Nat.le_of_ble_eq_true rfl, rfl, rfl, Nat.zero_le _, Nat.zero_le _⟩ rfl rfl (Nat.le_of_ble_eq_true rfl) dX3_tune_25 ?_
      refine v_if_ne C 34 dX3_tune_28 (by decide) (fun hc => ?_) (fun hc => ?_)
      · replace hsh := ite_n hc hsh
        refine v_aloadn C dX3_tune_34 rfl ?_
        refine f3_4 C dX3_tune_35 ?_
        refine v_aloadn C dX3_tune_38 rfl ?_
        refine f3_0 C dX3_tune_39 ?_
        obtain ⟨G4, e3, hsh⟩ := obv_e hsh
        refine v_callV (nP := 1) (k := 63) C (by decide) rfl rfl (c_X0_remember l D t ad hI isM0 e3) k365 k362 k363 k364 k3 yo_X0_remember ⟨Nat.le_of_ble_eq_true rfl, Nat.le_of_ble_eq_true rfl, rfl, rfl, Nat.zero_le _, Nat.zero_le _⟩ rfl rfl (Nat.le_of_ble_eq_true rfl) dX3_tune_42 ?_
        refine v_aloadn C dX3_tune_45 rfl ?_
        refine f3_0 C dX3_tune_46 ?_
        refine v_iloadn C dX3_tune_49 rfl ?_
        refine v_iloadn C dX3_tune_50 rfl ?_
        refine v_iloadn C dX3_tune_51 rfl ?_
        obtain ⟨r6, G7, e5, hsh⟩ := obi_e hsh
        refine v_callI (nP := 3) (k := 0) C (isM_lt (f := 0) isM0 (by decide)) (ce_m isM0) rfl (c_X1_retune l D t ad hI isM0 e5) k454 k451 k452 k453 k2 yo_X1_retune ⟨Nat.le_of_ble_eq_true rfl, Nat.le_of_ble_eq_true rfl, rfl, rfl, Nat.zero_le _, Nat.zero_le _⟩ rfl rfl (Nat.le_of_ble_eq_true rfl) dX3_tune_52 ?_
        obtain ⟨rfl, rfl⟩ := so_i hsh
        exact v_iret C dX3_tune_55
      · replace hsh := ite_p hc hsh
        refine v_bipush C dX3_tune_31 (v := -2) (by decide) ?_
        obtain ⟨rfl, rfl⟩ := so_i hsh
        exact v_iret C dX3_tune_33
  · replace hsh := ite_p hc hsh
    refine v_iconst C dX3_tune_11 (v := -1) (by decide) ?_
    obtain ⟨rfl, rfl⟩ := so_i hsh
    exact v_iret C dX3_tune_12
theorem yo_X3_tune : yOk yX3_tune 3 := ⟨by decide, by decide, by decide +kernel⟩

def sh_X3_set (l1 : Int32) (l2 : Int32) (G : gG) : Option (Int32 × gG) := (if l1 < (0 : Int32) then some ((-1 : Int32), G) else (if l1 < (3 : Int32) then (if gin l1 3 = true then (if l2 < (lstT (l1).toNatClampNeg) then some ((-2 : Int32), G) else (if l2 ≤ (grtT (l1).toNatClampNeg) then (obp (sh_X1_setting 0 l1 G) fun r3 => (if r3 = l2 then some ((-5 : Int32), G) else (obv (sh_X0_remember 0 G) fun G5 => (obi (sh_X1_changeSetting 0 l1 l2 G5) fun r7 G8 => some (r7, G8))))) else some ((-2 : Int32), G))) else none) else some ((-1 : Int32), G)))
set_option maxRecDepth 100000 in
set_option maxHeartbeats 4000000 in
theorem c_X3_set (l : Launch) (D : va_G) (t : gT) (ad : Nat → Nat) (hI : gI ad) {l1 : Int32} {l2 : Int32} {G : gG} {r0 : Int32} {G0 : gG} (hsh : sh_X3_set l1 l2 G = some (r0, G0)) : Mi l D t ad yX3_set cX3_set 3 (some .int) (rM 3 68) [.ref (ad 70), .int l1, .int l2] G r0 G0 := by
  refine m_go hI RX3 rfl (by decide +kernel) ⟨rfl, rfl⟩ (Nat.le_of_ble_eq_true rfl) rfl [some (.ref (ad 70)), some (.int l1), some (.int l2)] rfl (fun p e s m args below meth c C => ?_)
  unfold sh_X3_set at hsh
  refine v_iloadn C dX3_set_0 rfl ?_
  refine v_if_lt C 9 dX3_set_1 (by decide) (fun hc => ?_) (fun hc => ?_)
  · replace hsh := ite_p hc hsh
    refine v_iconst C dX3_set_9 (v := -1) (by decide) ?_
    obtain ⟨rfl, rfl⟩ := so_i hsh
    exact v_iret C dX3_set_10
  · replace hsh := ite_n hc hsh
    refine v_iloadn C dX3_set_4 rfl ?_
    refine v_iconst C dX3_set_5 (v := 3) (by decide) ?_
    refine v_ic_lt C 11 dX3_set_6 (by decide) (fun hc => ?_) (fun hc => ?_)
    · replace hsh := ite_p hc hsh
      refine v_iloadn C dX3_set_11 rfl ?_
      refine v_gLst C k459 dX3_set_12 ?_
      refine v_iloadn C dX3_set_15 rfl ?_
      obtain ⟨h1, hsh⟩ := g_if hsh
      refine v_ldLst C (gin_in h1) dX3_set_16 ?_
      refine v_ic_lt C 29 dX3_set_17 (by decide) (fun hc => ?_) (fun hc => ?_)
      · replace hsh := ite_p hc hsh
        refine v_bipush C dX3_set_29 (v := -2) (by decide) ?_
        obtain ⟨rfl, rfl⟩ := so_i hsh
        exact v_iret C dX3_set_31
      · replace hsh := ite_n hc hsh
        refine v_iloadn C dX3_set_20 rfl ?_
        refine v_gGrt C k461 dX3_set_21 ?_
        refine v_iloadn C dX3_set_24 rfl ?_
        refine v_ldGrt C (gin_in h1) dX3_set_25 ?_
        refine v_ic_le C 32 dX3_set_26 (by decide) (fun hc => ?_) (fun hc => ?_)
        · replace hsh := ite_p hc hsh
          refine v_aloadn C dX3_set_32 rfl ?_
          refine f3_0 C dX3_set_33 ?_
          refine v_iloadn C dX3_set_36 rfl ?_
          obtain ⟨r3, e2, hsh⟩ := obp_e hsh
          refine v_callI (nP := 1) (k := 0) C (isM_lt (f := 0) isM0 (by decide)) (ce_m isM0) rfl (c_X1_setting l D t ad hI isM0 e2) k349 k346 k347 k348 k2 yo_X1_setting ⟨Nat.le_of_ble_eq_true rfl, Nat.le_of_ble_eq_true rfl, rfl, rfl, Nat.zero_le _, Nat.zero_le _⟩ rfl rfl (Nat.le_of_ble_eq_true rfl) dX3_set_37 ?_
          refine v_iloadn C dX3_set_40 rfl ?_
          refine v_ic_ne C 47 dX3_set_41 (by decide) (fun hc => ?_) (fun hc => ?_)
          · replace hsh := ite_n hc hsh
            refine v_aloadn C dX3_set_47 rfl ?_
            refine f3_4 C dX3_set_48 ?_
            refine v_aloadn C dX3_set_51 rfl ?_
            refine f3_0 C dX3_set_52 ?_
            obtain ⟨G5, e4, hsh⟩ := obv_e hsh
            refine v_callV (nP := 1) (k := 63) C (by decide) rfl rfl (c_X0_remember l D t ad hI isM0 e4) k365 k362 k363 k364 k3 yo_X0_remember ⟨Nat.le_of_ble_eq_true rfl, Nat.le_of_ble_eq_true rfl, rfl, rfl, Nat.zero_le _, Nat.zero_le _⟩ rfl rfl (Nat.le_of_ble_eq_true rfl) dX3_set_55 ?_
            refine v_aloadn C dX3_set_58 rfl ?_
            refine f3_0 C dX3_set_59 ?_
            refine v_iloadn C dX3_set_62 rfl ?_
            refine v_iloadn C dX3_set_63 rfl ?_
            obtain ⟨r7, G8, e6, hsh⟩ := obi_e hsh
            refine v_callI (nP := 2) (k := 0) C (isM_lt (f := 0) isM0 (by decide)) (ce_m isM0) rfl (c_X1_changeSetting l D t ad hI isM0 e6) k466 k463 k464 k465 k2 yo_X1_changeSetting ⟨Nat.le_of_ble_eq_true rfl, Nat.le_of_ble_eq_true rfl, rfl, rfl, Nat.zero_le _, Nat.zero_le _⟩ rfl rfl (Nat.le_of_ble_eq_true rfl) dX3_set_64 ?_
            obtain ⟨rfl, rfl⟩ := so_i hsh
            exact v_iret C dX3_set_67
          · replace hsh := ite_p hc hsh
            refine v_bipush C dX3_set_44 (v := -5) (by decide) ?_
            obtain ⟨rfl, rfl⟩ := so_i hsh
            exact v_iret C dX3_set_46
        · replace hsh := ite_n hc hsh
          refine v_bipush C dX3_set_29 (v := -2) (by decide) ?_
          obtain ⟨rfl, rfl⟩ := so_i hsh
          exact v_iret C dX3_set_31
    · replace hsh := ite_n hc hsh
      refine v_iconst C dX3_set_9 (v := -1) (by decide) ?_
      obtain ⟨rfl, rfl⟩ := so_i hsh
      exact v_iret C dX3_set_10
theorem yo_X3_set : yOk yX3_set 2 := ⟨by decide, by decide, by decide +kernel⟩

def sh_X3_pass (l1 : Int32) (G : gG) : Option (Int32 × gG) := (if l1 < (1 : Int32) then some ((-2 : Int32), G) else (if l1 ≤ (999 : Int32) then (if ((sh_X1_tickNumber 0 G) + l1) ≤ (99999 : Int32) then (obv (sh_X0_remember 0 G) fun G2 => (obv (sh_X1_tickOften 0 l1 G2) fun G4 => some (((sh_X1_allBlinks 0 G4) - (sh_X1_allBlinks 0 G2)), G4))) else some ((-3 : Int32), G)) else some ((-2 : Int32), G)))
set_option maxRecDepth 100000 in
set_option maxHeartbeats 4000000 in
theorem c_X3_pass (l : Launch) (D : va_G) (t : gT) (ad : Nat → Nat) (hI : gI ad) {l1 : Int32} {G : gG} {r0 : Int32} {G0 : gG} (hsh : sh_X3_pass l1 G = some (r0, G0)) : Mi l D t ad yX3_pass cX3_pass 3 (some .int) (rM 5 115) [.ref (ad 70), .int l1] G r0 G0 := by
  refine m_go hI RX3 rfl (by decide +kernel) ⟨rfl, rfl⟩ (Nat.le_of_ble_eq_true rfl) rfl [some (.ref (ad 70)), some (.int l1), none] rfl (fun p e s m args below meth c C => ?_)
  unfold sh_X3_pass at hsh
  refine v_iloadn C dX3_pass_0 rfl ?_
  refine v_iconst C dX3_pass_1 (v := 1) (by decide) ?_
  refine v_ic_lt C 12 dX3_pass_2 (by decide) (fun hc => ?_) (fun hc => ?_)
  · replace hsh := ite_p hc hsh
    refine v_bipush C dX3_pass_12 (v := -2) (by decide) ?_
    obtain ⟨rfl, rfl⟩ := so_i hsh
    exact v_iret C dX3_pass_14
  · replace hsh := ite_n hc hsh
    refine v_iloadn C dX3_pass_5 rfl ?_
    refine v_sipush C dX3_pass_6 (v := 999) (by decide) ?_
    refine v_ic_le C 15 dX3_pass_9 (by decide) (fun hc => ?_) (fun hc => ?_)
    · replace hsh := ite_p hc hsh
      refine v_aloadn C dX3_pass_15 rfl ?_
      refine f3_0 C dX3_pass_16 ?_
      refine v_callI (nP := 0) (k := 0) C (isM_lt (f := 0) isM0 (by decide)) (ce_m isM0) rfl (c_X1_tickNumber l D t ad hI isM0 rfl) k360 k357 k358 k359 k2 yo_X1_tickNumber ⟨Nat.le_of_ble_eq_true rfl, Nat.le_of_ble_eq_true rfl, rfl, rfl, Nat.zero_le _, Nat.zero_le _⟩ rfl rfl (Nat.le_of_ble_eq_true rfl) dX3_pass_19 ?_
      refine v_iloadn C dX3_pass_22 rfl ?_
      refine v_iadd C dX3_pass_23 ?_
      refine v_ldc C k361 dX3_pass_24 ?_
      refine v_ic_le C 32 dX3_pass_26 (by decide) (fun hc => ?_) (fun hc => ?_)
      · replace hsh := ite_p hc hsh
        refine v_aloadn C dX3_pass_32 rfl ?_
        refine f3_4 C dX3_pass_33 ?_
        refine v_aloadn C dX3_pass_36 rfl ?_
        refine f3_0 C dX3_pass_37 ?_
        obtain ⟨G2, e1, hsh⟩ := obv_e hsh
        refine v_callV (nP := 1) (k := 63) C (by decide) rfl rfl (c_X0_remember l D t ad hI isM0 e1) k365 k362 k363 k364 k3 yo_X0_remember ⟨Nat.le_of_ble_eq_true rfl, Nat.le_of_ble_eq_true rfl, rfl, rfl, Nat.zero_le _, Nat.zero_le _⟩ rfl rfl (Nat.le_of_ble_eq_true rfl) dX3_pass_40 ?_
        refine v_aloadn C dX3_pass_43 rfl ?_
        refine f3_0 C dX3_pass_44 ?_
        refine v_callI (nP := 0) (k := 0) C (isM_lt (f := 0) isM0 (by decide)) (ce_m isM0) rfl (c_X1_allBlinks l D t ad hI isM0 rfl) k374 k371 k372 k373 k2 yo_X1_allBlinks ⟨Nat.le_of_ble_eq_true rfl, Nat.le_of_ble_eq_true rfl, rfl, rfl, Nat.zero_le _, Nat.zero_le _⟩ rfl rfl (Nat.le_of_ble_eq_true rfl) dX3_pass_47 ?_
        refine v_istoren C dX3_pass_50 (by decide) ?_
        refine v_aloadn C dX3_pass_51 rfl ?_
        refine f3_0 C dX3_pass_52 ?_
        refine v_iloadn C dX3_pass_55 rfl ?_
        obtain ⟨G4, e3, hsh⟩ := obv_e hsh
        refine v_callV (nP := 1) (k := 0) C (isM_lt (f := 0) isM0 (by decide)) (ce_m isM0) rfl (c_X1_tickOften l D t ad hI isM0 e3) k191 k188 k189 k190 k2 yo_X1_tickOften ⟨Nat.le_of_ble_eq_true rfl, Nat.le_of_ble_eq_true rfl, rfl, rfl, Nat.zero_le _, Nat.zero_le _⟩ rfl rfl (Nat.le_of_ble_eq_true rfl) dX3_pass_56 ?_
        refine v_aloadn C dX3_pass_59 rfl ?_
        refine f3_0 C dX3_pass_60 ?_
        refine v_callI (nP := 0) (k := 0) C (isM_lt (f := 0) isM0 (by decide)) (ce_m isM0) rfl (c_X1_allBlinks l D t ad hI isM0 rfl) k374 k371 k372 k373 k2 yo_X1_allBlinks ⟨Nat.le_of_ble_eq_true rfl, Nat.le_of_ble_eq_true rfl, rfl, rfl, Nat.zero_le _, Nat.zero_le _⟩ rfl rfl (Nat.le_of_ble_eq_true rfl) dX3_pass_63 ?_
        refine v_iloadn C dX3_pass_66 rfl ?_
        refine v_isub C dX3_pass_67 ?_
        obtain ⟨rfl, rfl⟩ := so_i hsh
        exact v_iret C dX3_pass_68
      · replace hsh := ite_n hc hsh
        refine v_bipush C dX3_pass_29 (v := -3) (by decide) ?_
        obtain ⟨rfl, rfl⟩ := so_i hsh
        exact v_iret C dX3_pass_31
    · replace hsh := ite_n hc hsh
      refine v_bipush C dX3_pass_12 (v := -2) (by decide) ?_
      obtain ⟨rfl, rfl⟩ := so_i hsh
      exact v_iret C dX3_pass_14
theorem yo_X3_pass : yOk yX3_pass 1 := ⟨by decide, by decide, by decide +kernel⟩

def sh_X3_undo (G : gG) : Option (Int32 × gG) := (if (sh_X0_size G) = (0 : Int32) then some ((-5 : Int32), G) else (obv (sh_X0_takeBack 0 G) fun G2 => some ((sh_X0_size G2), G2)))
set_option maxRecDepth 100000 in
set_option maxHeartbeats 4000000 in
theorem c_X3_undo (l : Launch) (D : va_G) (t : gT) (ad : Nat → Nat) (hI : gI ad) {G : gG} {r0 : Int32} {G0 : gG} (hsh : sh_X3_undo G = some (r0, G0)) : Mi l D t ad yX3_undo cX3_undo 1 (some .int) (rM 3 68) [.ref (ad 70)] G r0 G0 := by
  refine m_go hI RX3 rfl (by decide +kernel) ⟨rfl, rfl⟩ (Nat.le_of_ble_eq_true rfl) rfl [some (.ref (ad 70))] rfl (fun p e s m args below meth c C => ?_)
  unfold sh_X3_undo at hsh
  refine v_aloadn C dX3_undo_0 rfl ?_
  refine f3_4 C dX3_undo_1 ?_
  refine v_callI (nP := 0) (k := 63) C (by decide) rfl rfl (c_X0_size l D t ad hI  rfl) k287 k284 k285 k286 k3 yo_X0_size ⟨Nat.le_of_ble_eq_true rfl, Nat.le_of_ble_eq_true rfl, rfl, rfl, Nat.zero_le _, Nat.zero_le _⟩ rfl rfl (Nat.le_of_ble_eq_true rfl) dX3_undo_4 ?_
  refine v_if_ne C 13 dX3_undo_7 (by decide) (fun hc => ?_) (fun hc => ?_)
  · replace hsh := ite_n hc hsh
    refine v_aloadn C dX3_undo_13 rfl ?_
    refine f3_4 C dX3_undo_14 ?_
    refine v_aloadn C dX3_undo_17 rfl ?_
    refine f3_0 C dX3_undo_18 ?_
    obtain ⟨G2, e1, hsh⟩ := obv_e hsh
    refine v_callV (nP := 1) (k := 63) C (by decide) rfl rfl (c_X0_takeBack l D t ad hI isM0 e1) k382 k379 k380 k381 k3 yo_X0_takeBack ⟨Nat.le_of_ble_eq_true rfl, Nat.le_of_ble_eq_true rfl, rfl, rfl, Nat.zero_le _, Nat.zero_le _⟩ rfl rfl (Nat.le_of_ble_eq_true rfl) dX3_undo_21 ?_
    refine v_aloadn C dX3_undo_24 rfl ?_
    refine f3_4 C dX3_undo_25 ?_
    refine v_callI (nP := 0) (k := 63) C (by decide) rfl rfl (c_X0_size l D t ad hI  rfl) k287 k284 k285 k286 k3 yo_X0_size ⟨Nat.le_of_ble_eq_true rfl, Nat.le_of_ble_eq_true rfl, rfl, rfl, Nat.zero_le _, Nat.zero_le _⟩ rfl rfl (Nat.le_of_ble_eq_true rfl) dX3_undo_28 ?_
    obtain ⟨rfl, rfl⟩ := so_i hsh
    exact v_iret C dX3_undo_31
  · replace hsh := ite_p hc hsh
    refine v_bipush C dX3_undo_10 (v := -5) (by decide) ?_
    obtain ⟨rfl, rfl⟩ := so_i hsh
    exact v_iret C dX3_undo_12
theorem yo_X3_undo : yOk yX3_undo 0 := ⟨by decide, by decide, by decide +kernel⟩

def sh_X3_lamp (l1 : Int32) (l2 : Int32) (G : gG) : Option (Int32) := (if (sh_X1_has 0 l1 G) = (0 : Int32) then some (-1 : Int32) else (obp (sh_X1_tellLamp 0 l1 l2 G) fun r2 => some r2))
set_option maxRecDepth 100000 in
set_option maxHeartbeats 4000000 in
theorem c_X3_lamp (l : Launch) (D : va_G) (t : gT) (ad : Nat → Nat) (hI : gI ad) {l1 : Int32} {l2 : Int32} {G : gG} {r0 : Int32} (hsh : sh_X3_lamp l1 l2 G = some r0) : Mi l D t ad yX3_lamp cX3_lamp 3 (some .int) (rM 4 90) [.ref (ad 70), .int l1, .int l2] G r0 G := by
  refine m_go hI RX3 rfl (by decide +kernel) ⟨rfl, rfl⟩ (Nat.le_of_ble_eq_true rfl) rfl [some (.ref (ad 70)), some (.int l1), some (.int l2)] rfl (fun p e s m args below meth c C => ?_)
  unfold sh_X3_lamp at hsh
  refine v_aloadn C dX3_lamp_0 rfl ?_
  refine f3_0 C dX3_lamp_1 ?_
  refine v_iloadn C dX3_lamp_4 rfl ?_
  refine v_callI (nP := 1) (k := 0) C (isM_lt (f := 0) isM0 (by decide)) (ce_m isM0) rfl (c_X1_has l D t ad hI isM0 rfl) k255 k252 k253 k254 k2 yo_X1_has ⟨Nat.le_of_ble_eq_true rfl, Nat.le_of_ble_eq_true rfl, rfl, rfl, Nat.zero_le _, Nat.zero_le _⟩ rfl rfl (Nat.le_of_ble_eq_true rfl) dX3_lamp_5 ?_
  refine v_if_ne C 13 dX3_lamp_8 (by decide) (fun hc => ?_) (fun hc => ?_)
  · replace hsh := ite_n hc hsh
    refine v_aloadn C dX3_lamp_13 rfl ?_
    refine f3_0 C dX3_lamp_14 ?_
    refine v_iloadn C dX3_lamp_17 rfl ?_
    refine v_iloadn C dX3_lamp_18 rfl ?_
    obtain ⟨r2, e1, hsh⟩ := obp_e hsh
    refine v_callI (nP := 2) (k := 0) C (isM_lt (f := 0) isM0 (by decide)) (ce_m isM0) rfl (c_X1_tellLamp l D t ad hI isM0 e1) k259 k256 k257 k258 k2 yo_X1_tellLamp ⟨Nat.le_of_ble_eq_true rfl, Nat.le_of_ble_eq_true rfl, rfl, rfl, Nat.zero_le _, Nat.zero_le _⟩ rfl rfl (Nat.le_of_ble_eq_true rfl) dX3_lamp_19 ?_
    obtain rfl := so_1 hsh
    exact v_iret C dX3_lamp_22
  · replace hsh := ite_p hc hsh
    refine v_iconst C dX3_lamp_11 (v := -1) (by decide) ?_
    obtain rfl := so_1 hsh
    exact v_iret C dX3_lamp_12
theorem yo_X3_lamp : yOk yX3_lamp 2 := ⟨by decide, by decide, by decide +kernel⟩

def sh_X3_apart (l1 : Int32) (l2 : Int32) (G : gG) : Option (Int32) := (if (sh_X1_has 0 l1 G) = (0 : Int32) then some (-1 : Int32) else (if (sh_X1_has 0 l2 G) = (0 : Int32) then some (-1 : Int32) else (obp (sh_X1_distance 0 l1 l2 G) fun r2 => some r2)))
set_option maxRecDepth 100000 in
set_option maxHeartbeats 4000000 in
theorem c_X3_apart (l : Launch) (D : va_G) (t : gT) (ad : Nat → Nat) (hI : gI ad) {l1 : Int32} {l2 : Int32} {G : gG} {r0 : Int32} (hsh : sh_X3_apart l1 l2 G = some r0) : Mi l D t ad yX3_apart cX3_apart 3 (some .int) (rM 2 44) [.ref (ad 70), .int l1, .int l2] G r0 G := by
  refine m_go hI RX3 rfl (by decide +kernel) ⟨rfl, rfl⟩ (Nat.le_of_ble_eq_true rfl) rfl [some (.ref (ad 70)), some (.int l1), some (.int l2)] rfl (fun p e s m args below meth c C => ?_)
  unfold sh_X3_apart at hsh
  refine v_aloadn C dX3_apart_0 rfl ?_
  refine f3_0 C dX3_apart_1 ?_
  refine v_iloadn C dX3_apart_4 rfl ?_
  refine v_callI (nP := 1) (k := 0) C (isM_lt (f := 0) isM0 (by decide)) (ce_m isM0) rfl (c_X1_has l D t ad hI isM0 rfl) k255 k252 k253 k254 k2 yo_X1_has ⟨Nat.le_of_ble_eq_true rfl, Nat.le_of_ble_eq_true rfl, rfl, rfl, Nat.zero_le _, Nat.zero_le _⟩ rfl rfl (Nat.le_of_ble_eq_true rfl) dX3_apart_5 ?_
  refine v_if_eq C 22 dX3_apart_8 (by decide) (fun hc => ?_) (fun hc => ?_)
  · replace hsh := ite_p hc hsh
    refine v_iconst C dX3_apart_22 (v := -1) (by decide) ?_
    obtain rfl := so_1 hsh
    exact v_iret C dX3_apart_23
  · replace hsh := ite_n hc hsh
    refine v_aloadn C dX3_apart_11 rfl ?_
    refine f3_0 C dX3_apart_12 ?_
    refine v_iloadn C dX3_apart_15 rfl ?_
    refine v_callI (nP := 1) (k := 0) C (isM_lt (f := 0) isM0 (by decide)) (ce_m isM0) rfl (c_X1_has l D t ad hI isM0 rfl) k255 k252 k253 k254 k2 yo_X1_has ⟨Nat.le_of_ble_eq_true rfl, Nat.le_of_ble_eq_true rfl, rfl, rfl, Nat.zero_le _, Nat.zero_le _⟩ rfl rfl (Nat.le_of_ble_eq_true rfl) dX3_apart_16 ?_
    refine v_if_ne C 24 dX3_apart_19 (by decide) (fun hc => ?_) (fun hc => ?_)
    · replace hsh := ite_n hc hsh
      refine v_aloadn C dX3_apart_24 rfl ?_
      refine f3_0 C dX3_apart_25 ?_
      refine v_iloadn C dX3_apart_28 rfl ?_
      refine v_iloadn C dX3_apart_29 rfl ?_
      obtain ⟨r2, e1, hsh⟩ := obp_e hsh
      refine v_callI (nP := 2) (k := 0) C (isM_lt (f := 0) isM0 (by decide)) (ce_m isM0) rfl (c_X1_distance l D t ad hI isM0 e1) k233 k279 k231 k232 k2 yo_X1_distance ⟨Nat.le_of_ble_eq_true rfl, Nat.le_of_ble_eq_true rfl, rfl, rfl, Nat.zero_le _, Nat.zero_le _⟩ rfl rfl (Nat.le_of_ble_eq_true rfl) dX3_apart_30 ?_
      obtain rfl := so_1 hsh
      exact v_iret C dX3_apart_33
    · replace hsh := ite_p hc hsh
      refine v_iconst C dX3_apart_22 (v := -1) (by decide) ?_
      obtain rfl := so_1 hsh
      exact v_iret C dX3_apart_23
theorem yo_X3_apart : yOk yX3_apart 2 := ⟨by decide, by decide, by decide +kernel⟩

def sh_X3_next_38  (kt73 : gG → Option (Int32 × gG)) : Nat → Int32 → Int32 → gG → Option (Int32 × gG)
  | 0, _, _, _ => none
  | n + 1, l1, l2, G => (if (400 : Int32) < l2 then kt73  G else (obi (sh_X1_tickOnce 9 G) fun r4 G5 => (if r4 = (0 : Int32) then sh_X3_next_38 kt73 n l1 (l2 + 1) G5 else (if l1 = (0 : Int32) then some (l2, G5) else some (r4, G5)))))
def sh_X3_next (l1 : Int32) (G : gG) : Option (Int32 × gG) := (if l1 < (0 : Int32) then some ((-2 : Int32), G) else (if l1 ≤ (1 : Int32) then (if (sh_X1_lampsOn 0 G) = (0 : Int32) then some ((-5 : Int32), G) else (obv (sh_X1_copyFrom 9 0 G) fun G2 => (sh_X3_next_38 (fun G => some ((-5 : Int32), G)) FU l1 (1 : Int32) G2))) else some ((-2 : Int32), G)))
set_option maxRecDepth 100000 in
set_option maxHeartbeats 4000000 in
theorem lp_X3_next_38 {p : Program} {l : Launch} {e : Env} {s : State} {m : MethodId} {args : Array Value} {below : List Frame} {meth : Method} {c : Code} {D : va_G} {t : gT} {ad : Nat → Nat} (C : gC p s m args meth c cX3_next RX3 4 (some .int) (isW ad) D t ad) (hI : gI ad) {r0 : Int32} {G0 : gG} {kt73 : gG → Option (Int32 × gG)} (hk73 : ∀ (G : gG) , kt73 G = some (r0, G0) → V p l e (rM 4 93) s m args below meth c (isW ad) D t ad 0 0 4 (Qi below D t ad args s r0 G0) G 73 [none, none, none, none] []) : ∀ (n : Nat) (l1 : Int32) (l2 : Int32) (G : gG) , sh_X3_next_38 kt73 n l1 l2 G = some (r0, G0) → V p l e (rM 4 93) s m args below meth c (isW ad) D t ad 0 0 4 (Qi below D t ad args s r0 G0) G 38 [some (.ref (ad 70)), some (.int l1), some (.int l2), none] [] := by
  intro n
  induction n with
  | zero => intro l1 l2 G hsh; rw [sh_X3_next_38.eq_1] at hsh; cases hsh
  | succ n ih =>
    intro l1 l2 G hsh
    rw [sh_X3_next_38.eq_2] at hsh
    refine v_iloadn C dX3_next_38 rfl ?_
    refine v_sipush C dX3_next_39 (v := 400) (by decide) ?_
    refine v_ic_gt C 73 dX3_next_42 (by decide) (fun hc => ?_) (fun hc => ?_)
    · replace hsh := ite_p hc hsh
      exact v_wk (hk73  _ hsh) (wk_of trivial)
    · replace hsh := ite_n hc hsh
      refine v_aloadn C dX3_next_45 rfl ?_
      refine f3_1 C dX3_next_46 ?_
      obtain ⟨r4, G5, e3, hsh⟩ := obi_e hsh
      refine v_callI (nP := 0) (k := 9) C (isM_lt (f := 0) isM9 (by decide)) (ce_m isM9) rfl (c_X1_tickOnce l D t ad hI isM9 e3) k195 k332 k193 k194 k2 yo_X1_tickOnce ⟨Nat.le_of_ble_eq_true rfl, Nat.le_of_ble_eq_true rfl, rfl, rfl, Nat.zero_le _, Nat.zero_le _⟩ rfl rfl (Nat.le_of_ble_eq_true rfl) dX3_next_49 ?_
      refine v_istoren C dX3_next_52 (by decide) ?_
      refine v_iloadn C dX3_next_53 rfl ?_
      refine v_if_eq C 67 dX3_next_54 (by decide) (fun hc => ?_) (fun hc => ?_)
      · replace hsh := ite_p hc hsh
        refine v_iinc C dX3_next_67 rfl (v := 1) (by decide) (by decide) ?_
        refine v_goto C 38 dX3_next_70 (by decide) ?_
        exact v_wk (ih _ _ _ hsh) (wk_of (And.intro rfl (And.intro rfl (And.intro rfl trivial))))
      · replace hsh := ite_n hc hsh
        refine v_iloadn C dX3_next_57 rfl ?_
        refine v_if_ne C 65 dX3_next_58 (by decide) (fun hc => ?_) (fun hc => ?_)
        · replace hsh := ite_n hc hsh
          refine v_iloadn C dX3_next_65 rfl ?_
          obtain ⟨rfl, rfl⟩ := so_i hsh
          exact v_iret C dX3_next_66
        · replace hsh := ite_p hc hsh
          refine v_iloadn C dX3_next_61 rfl ?_
          refine v_goto C 66 dX3_next_62 (by decide) ?_
          obtain ⟨rfl, rfl⟩ := so_i hsh
          exact v_iret C dX3_next_66
set_option maxRecDepth 100000 in
set_option maxHeartbeats 4000000 in
theorem c_X3_next (l : Launch) (D : va_G) (t : gT) (ad : Nat → Nat) (hI : gI ad) {l1 : Int32} {G : gG} {r0 : Int32} {G0 : gG} (hsh : sh_X3_next l1 G = some (r0, G0)) : Mi l D t ad yX3_next cX3_next 4 (some .int) (rM 4 93) [.ref (ad 70), .int l1] G r0 G0 := by
  refine m_go hI RX3 rfl (by decide +kernel) ⟨rfl, rfl⟩ (Nat.le_of_ble_eq_true rfl) rfl [some (.ref (ad 70)), some (.int l1), none, none] rfl (fun p e s m args below meth c C => ?_)
  unfold sh_X3_next at hsh
  refine v_iloadn C dX3_next_0 rfl ?_
  refine v_if_lt C 9 dX3_next_1 (by decide) (fun hc => ?_) (fun hc => ?_)
  · replace hsh := ite_p hc hsh
    refine v_bipush C dX3_next_9 (v := -2) (by decide) ?_
    obtain ⟨rfl, rfl⟩ := so_i hsh
    exact v_iret C dX3_next_11
  · replace hsh := ite_n hc hsh
    refine v_iloadn C dX3_next_4 rfl ?_
    refine v_iconst C dX3_next_5 (v := 1) (by decide) ?_
    refine v_ic_le C 12 dX3_next_6 (by decide) (fun hc => ?_) (fun hc => ?_)
    · replace hsh := ite_p hc hsh
      refine v_aloadn C dX3_next_12 rfl ?_
      refine f3_0 C dX3_next_13 ?_
      refine v_callI (nP := 0) (k := 0) C (isM_lt (f := 0) isM0 (by decide)) (ce_m isM0) rfl (c_X1_lampsOn l D t ad hI isM0 rfl) k303 k319 k301 k302 k2 yo_X1_lampsOn ⟨Nat.le_of_ble_eq_true rfl, Nat.le_of_ble_eq_true rfl, rfl, rfl, Nat.zero_le _, Nat.zero_le _⟩ rfl rfl (Nat.le_of_ble_eq_true rfl) dX3_next_16 ?_
      refine v_if_ne C 25 dX3_next_19 (by decide) (fun hc => ?_) (fun hc => ?_)
      · replace hsh := ite_n hc hsh
        refine v_aloadn C dX3_next_25 rfl ?_
        refine f3_1 C dX3_next_26 ?_
        refine v_aloadn C dX3_next_29 rfl ?_
        refine f3_0 C dX3_next_30 ?_
        obtain ⟨G2, e1, hsh⟩ := obv_e hsh
        refine v_callV (nP := 1) (k := 9) C (isM_lt (f := 0) isM9 (by decide)) (ce_m isM9) rfl (c_X1_copyFrom l D t ad hI isM9 isM0 e1) k180 k177 k178 k179 k2 yo_X1_copyFrom ⟨Nat.le_of_ble_eq_true rfl, Nat.le_of_ble_eq_true rfl, rfl, rfl, Nat.zero_le _, Nat.zero_le _⟩ rfl rfl (Nat.le_of_ble_eq_true rfl) dX3_next_33 ?_
        refine v_iconst C dX3_next_36 (v := 1) (by decide) ?_
        refine v_istoren C dX3_next_37 (by decide) ?_
        refine v_wk (lp_X3_next_38 C hI (fun G hsh => ?_) FU _ _ _ hsh) (wk_of (And.intro rfl (And.intro rfl (And.intro rfl trivial))))
        refine v_bipush C dX3_next_73 (v := -5) (by decide) ?_
        obtain ⟨rfl, rfl⟩ := so_i hsh
        exact v_iret C dX3_next_75
      · replace hsh := ite_p hc hsh
        refine v_bipush C dX3_next_22 (v := -5) (by decide) ?_
        obtain ⟨rfl, rfl⟩ := so_i hsh
        exact v_iret C dX3_next_24
    · replace hsh := ite_n hc hsh
      refine v_bipush C dX3_next_9 (v := -2) (by decide) ?_
      obtain ⟨rfl, rfl⟩ := so_i hsh
      exact v_iret C dX3_next_11
theorem yo_X3_next : yOk yX3_next 1 := ⟨by decide, by decide, by decide +kernel⟩

def sh_X3_trialTogetherIn_15  (kt48 : gG → Option (Int32 × gG)) : Nat → Int32 → gG → Option (Int32 × gG)
  | 0, _, _ => none
  | n + 1, l1, G => (if (2000 : Int32) ≤ l1 then kt48  G else (obp (sh_X1_isTogether 9 G) fun r2 => (if r2 = (0 : Int32) then (obi (sh_X1_tickOnce 9 G) fun r4 G5 => sh_X3_trialTogetherIn_15 kt48 n (l1 + 1) G5) else some (l1, G))))
def sh_X3_trialTogetherIn (G : gG) : Option (Int32 × gG) := (if (sh_X1_lampsOn 9 G) = (0 : Int32) then some ((-5 : Int32), G) else (sh_X3_trialTogetherIn_15 (fun G => (obp (sh_X1_isTogether 9 G) fun r7 => (if r7 = (0 : Int32) then some ((-5 : Int32), G) else some ((2000 : Int32), G)))) FU (0 : Int32) G))
set_option maxRecDepth 100000 in
set_option maxHeartbeats 4000000 in
theorem lp_X3_trialTogetherIn_15 {p : Program} {l : Launch} {e : Env} {s : State} {m : MethodId} {args : Array Value} {below : List Frame} {meth : Method} {c : Code} {D : va_G} {t : gT} {ad : Nat → Nat} (C : gC p s m args meth c cX3_trialTogetherIn RX3 2 (some .int) (isW ad) D t ad) (hI : gI ad) {r0 : Int32} {G0 : gG} {kt48 : gG → Option (Int32 × gG)} (hk48 : ∀ (G : gG) , kt48 G = some (r0, G0) → V p l e (rM 4 93) s m args below meth c (isW ad) D t ad 0 0 2 (Qi below D t ad args s r0 G0) G 48 [some (.ref (ad 70)), none] []) : ∀ (n : Nat) (l1 : Int32) (G : gG) , sh_X3_trialTogetherIn_15 kt48 n l1 G = some (r0, G0) → V p l e (rM 4 93) s m args below meth c (isW ad) D t ad 0 0 2 (Qi below D t ad args s r0 G0) G 15 [some (.ref (ad 70)), some (.int l1)] [] := by
  intro n
  induction n with
  | zero => intro l1 G hsh; rw [sh_X3_trialTogetherIn_15.eq_1] at hsh; cases hsh
  | succ n ih =>
    intro l1 G hsh
    rw [sh_X3_trialTogetherIn_15.eq_2] at hsh
    refine v_iloadn C dX3_trialTogetherIn_15 rfl ?_
    refine v_sipush C dX3_trialTogetherIn_16 (v := 2000) (by decide) ?_
    refine v_ic_ge C 48 dX3_trialTogetherIn_19 (by decide) (fun hc => ?_) (fun hc => ?_)
    · replace hsh := ite_p hc hsh
      exact v_wk (hk48  _ hsh) (wk_of (And.intro rfl trivial))
    · replace hsh := ite_n hc hsh
      refine v_aloadn C dX3_trialTogetherIn_22 rfl ?_
      refine f3_1 C dX3_trialTogetherIn_23 ?_
      obtain ⟨r2, e1, hsh⟩ := obp_e hsh
      refine v_callI (nP := 0) (k := 9) C (isM_lt (f := 0) isM9 (by decide)) (ce_m isM9) rfl (c_X1_isTogether l D t ad hI isM9 e1) k331 k328 k329 k330 k2 yo_X1_isTogether ⟨Nat.le_of_ble_eq_true rfl, Nat.le_of_ble_eq_true rfl, rfl, rfl, Nat.zero_le _, Nat.zero_le _⟩ rfl rfl (Nat.le_of_ble_eq_true rfl) dX3_trialTogetherIn_26 ?_
      refine v_if_eq C 34 dX3_trialTogetherIn_29 (by decide) (fun hc => ?_) (fun hc => ?_)
      · replace hsh := ite_p hc hsh
        refine v_aloadn C dX3_trialTogetherIn_34 rfl ?_
        refine f3_1 C dX3_trialTogetherIn_35 ?_
        obtain ⟨r4, G5, e3, hsh⟩ := obi_e hsh
        refine v_callI (nP := 0) (k := 9) C (isM_lt (f := 0) isM9 (by decide)) (ce_m isM9) rfl (c_X1_tickOnce l D t ad hI isM9 e3) k195 k332 k193 k194 k2 yo_X1_tickOnce ⟨Nat.le_of_ble_eq_true rfl, Nat.le_of_ble_eq_true rfl, rfl, rfl, Nat.zero_le _, Nat.zero_le _⟩ rfl rfl (Nat.le_of_ble_eq_true rfl) dX3_trialTogetherIn_38 ?_
        refine v_pop C dX3_trialTogetherIn_41 rfl ?_
        refine v_iinc C dX3_trialTogetherIn_42 rfl (v := 1) (by decide) (by decide) ?_
        refine v_goto C 15 dX3_trialTogetherIn_45 (by decide) ?_
        exact v_wk (ih _ _ hsh) (wk_of (And.intro rfl (And.intro rfl trivial)))
      · replace hsh := ite_n hc hsh
        refine v_iloadn C dX3_trialTogetherIn_32 rfl ?_
        obtain ⟨rfl, rfl⟩ := so_i hsh
        exact v_iret C dX3_trialTogetherIn_33
set_option maxRecDepth 100000 in
set_option maxHeartbeats 4000000 in
theorem c_X3_trialTogetherIn (l : Launch) (D : va_G) (t : gT) (ad : Nat → Nat) (hI : gI ad) {G : gG} {r0 : Int32} {G0 : gG} (hsh : sh_X3_trialTogetherIn G = some (r0, G0)) : Mi l D t ad yX3_trialTogetherIn cX3_trialTogetherIn 2 (some .int) (rM 4 93) [.ref (ad 70)] G r0 G0 := by
  refine m_go hI RX3 rfl (by decide +kernel) ⟨rfl, rfl⟩ (Nat.le_of_ble_eq_true rfl) rfl [some (.ref (ad 70)), none] rfl (fun p e s m args below meth c C => ?_)
  unfold sh_X3_trialTogetherIn at hsh
  refine v_aloadn C dX3_trialTogetherIn_0 rfl ?_
  refine f3_1 C dX3_trialTogetherIn_1 ?_
  refine v_callI (nP := 0) (k := 9) C (isM_lt (f := 0) isM9 (by decide)) (ce_m isM9) rfl (c_X1_lampsOn l D t ad hI isM9 rfl) k303 k319 k301 k302 k2 yo_X1_lampsOn ⟨Nat.le_of_ble_eq_true rfl, Nat.le_of_ble_eq_true rfl, rfl, rfl, Nat.zero_le _, Nat.zero_le _⟩ rfl rfl (Nat.le_of_ble_eq_true rfl) dX3_trialTogetherIn_4 ?_
  refine v_if_ne C 13 dX3_trialTogetherIn_7 (by decide) (fun hc => ?_) (fun hc => ?_)
  · replace hsh := ite_n hc hsh
    refine v_iconst C dX3_trialTogetherIn_13 (v := 0) (by decide) ?_
    refine v_istoren C dX3_trialTogetherIn_14 (by decide) ?_
    refine v_wk (lp_X3_trialTogetherIn_15 C hI (fun G hsh => ?_) FU _ _ hsh) (wk_of (And.intro rfl (And.intro rfl trivial)))
    refine v_aloadn C dX3_trialTogetherIn_48 rfl ?_
    refine f3_1 C dX3_trialTogetherIn_49 ?_
    obtain ⟨r7, e6, hsh⟩ := obp_e hsh
    refine v_callI (nP := 0) (k := 9) C (isM_lt (f := 0) isM9 (by decide)) (ce_m isM9) rfl (c_X1_isTogether l D t ad hI isM9 e6) k331 k328 k329 k330 k2 yo_X1_isTogether ⟨Nat.le_of_ble_eq_true rfl, Nat.le_of_ble_eq_true rfl, rfl, rfl, Nat.zero_le _, Nat.zero_le _⟩ rfl rfl (Nat.le_of_ble_eq_true rfl) dX3_trialTogetherIn_52 ?_
    refine v_if_eq C 64 dX3_trialTogetherIn_55 (by decide) (fun hc => ?_) (fun hc => ?_)
    · replace hsh := ite_p hc hsh
      refine v_bipush C dX3_trialTogetherIn_64 (v := -5) (by decide) ?_
      obtain ⟨rfl, rfl⟩ := so_i hsh
      exact v_iret C dX3_trialTogetherIn_66
    · replace hsh := ite_n hc hsh
      refine v_sipush C dX3_trialTogetherIn_58 (v := 2000) (by decide) ?_
      refine v_goto C 66 dX3_trialTogetherIn_61 (by decide) ?_
      obtain ⟨rfl, rfl⟩ := so_i hsh
      exact v_iret C dX3_trialTogetherIn_66
  · replace hsh := ite_p hc hsh
    refine v_bipush C dX3_trialTogetherIn_10 (v := -5) (by decide) ?_
    obtain ⟨rfl, rfl⟩ := so_i hsh
    exact v_iret C dX3_trialTogetherIn_12
theorem yo_X3_trialTogetherIn : yOk yX3_trialTogetherIn 0 := ⟨by decide, by decide, by decide +kernel⟩

def sh_X3_togetherIn (G : gG) : Option (Int32 × gG) := (obv (sh_X1_copyFrom 9 0 G) fun G2 => (obi (sh_X3_trialTogetherIn G2) fun r4 G5 => some (r4, G5)))
set_option maxRecDepth 100000 in
set_option maxHeartbeats 4000000 in
theorem c_X3_togetherIn (l : Launch) (D : va_G) (t : gT) (ad : Nat → Nat) (hI : gI ad) {G : gG} {r0 : Int32} {G0 : gG} (hsh : sh_X3_togetherIn G = some (r0, G0)) : Mi l D t ad yX3_togetherIn cX3_togetherIn 1 (some .int) (rM 5 114) [.ref (ad 70)] G r0 G0 := by
  refine m_go hI RX3 rfl (by decide +kernel) ⟨rfl, rfl⟩ (Nat.le_of_ble_eq_true rfl) rfl [some (.ref (ad 70))] rfl (fun p e s m args below meth c C => ?_)
  unfold sh_X3_togetherIn at hsh
  refine v_aloadn C dX3_togetherIn_0 rfl ?_
  refine f3_1 C dX3_togetherIn_1 ?_
  refine v_aloadn C dX3_togetherIn_4 rfl ?_
  refine f3_0 C dX3_togetherIn_5 ?_
  obtain ⟨G2, e1, hsh⟩ := obv_e hsh
  refine v_callV (nP := 1) (k := 9) C (isM_lt (f := 0) isM9 (by decide)) (ce_m isM9) rfl (c_X1_copyFrom l D t ad hI isM9 isM0 e1) k180 k177 k178 k179 k2 yo_X1_copyFrom ⟨Nat.le_of_ble_eq_true rfl, Nat.le_of_ble_eq_true rfl, rfl, rfl, Nat.zero_le _, Nat.zero_le _⟩ rfl rfl (Nat.le_of_ble_eq_true rfl) dX3_togetherIn_8 ?_
  refine v_aloadn C dX3_togetherIn_11 rfl ?_
  obtain ⟨r4, G5, e3, hsh⟩ := obi_e hsh
  refine v_callI (nP := 0) (k := 70) C (by decide) rfl rfl (c_X3_trialTogetherIn l D t ad hI  e3) k327 k324 k326 kp10 k1 yo_X3_trialTogetherIn ⟨Nat.le_of_ble_eq_true rfl, Nat.le_of_ble_eq_true rfl, rfl, rfl, Nat.zero_le _, Nat.zero_le _⟩ rfl rfl (Nat.le_of_ble_eq_true rfl) dX3_togetherIn_12 ?_
  obtain ⟨rfl, rfl⟩ := so_i hsh
  exact v_iret C dX3_togetherIn_15
theorem yo_X3_togetherIn : yOk yX3_togetherIn 0 := ⟨by decide, by decide, by decide +kernel⟩

def sh_X3_reason (G : gG) : Option (Int32) := (obp (sh_X1_isTogether 0 G) fun r2 => (if r2 = (0 : Int32) then (if (sh_X1_lampsOn 0 G) = (0 : Int32) then some (1 : Int32) else (obp (sh_X1_pieces 0 G) fun r4 => (if r4 ≤ (1 : Int32) then (obp (sh_X1_hasUnlikeRates 0 G) fun r6 => (if r6 = (0 : Int32) then (obp (sh_X1_setting 0 (1 : Int32) G) fun r8 => (if r8 = (0 : Int32) then some (4 : Int32) else some (0 : Int32))) else some (3 : Int32))) else some (2 : Int32)))) else some (0 : Int32)))
set_option maxRecDepth 100000 in
set_option maxHeartbeats 4000000 in
theorem c_X3_reason (l : Launch) (D : va_G) (t : gT) (ad : Nat → Nat) (hI : gI ad) {G : gG} {r0 : Int32} (hsh : sh_X3_reason G = some r0) : Mi l D t ad yX3_reason cX3_reason 1 (some .int) (rM 4 91) [.ref (ad 70)] G r0 G := by
  refine m_go hI RX3 rfl (by decide +kernel) ⟨rfl, rfl⟩ (Nat.le_of_ble_eq_true rfl) rfl [some (.ref (ad 70))] rfl (fun p e s m args below meth c C => ?_)
  unfold sh_X3_reason at hsh
  refine v_aloadn C dX3_reason_0 rfl ?_
  refine f3_0 C dX3_reason_1 ?_
  obtain ⟨r2, e1, hsh⟩ := obp_e hsh
  refine v_callI (nP := 0) (k := 0) C (isM_lt (f := 0) isM0 (by decide)) (ce_m isM0) rfl (c_X1_isTogether l D t ad hI isM0 e1) k331 k328 k329 k330 k2 yo_X1_isTogether ⟨Nat.le_of_ble_eq_true rfl, Nat.le_of_ble_eq_true rfl, rfl, rfl, Nat.zero_le _, Nat.zero_le _⟩ rfl rfl (Nat.le_of_ble_eq_true rfl) dX3_reason_4 ?_
  refine v_if_eq C 12 dX3_reason_7 (by decide) (fun hc => ?_) (fun hc => ?_)
  · replace hsh := ite_p hc hsh
    refine v_aloadn C dX3_reason_12 rfl ?_
    refine f3_0 C dX3_reason_13 ?_
    refine v_callI (nP := 0) (k := 0) C (isM_lt (f := 0) isM0 (by decide)) (ce_m isM0) rfl (c_X1_lampsOn l D t ad hI isM0 rfl) k303 k319 k301 k302 k2 yo_X1_lampsOn ⟨Nat.le_of_ble_eq_true rfl, Nat.le_of_ble_eq_true rfl, rfl, rfl, Nat.zero_le _, Nat.zero_le _⟩ rfl rfl (Nat.le_of_ble_eq_true rfl) dX3_reason_16 ?_
    refine v_if_ne C 24 dX3_reason_19 (by decide) (fun hc => ?_) (fun hc => ?_)
    · replace hsh := ite_n hc hsh
      refine v_aloadn C dX3_reason_24 rfl ?_
      refine f3_0 C dX3_reason_25 ?_
      obtain ⟨r4, e3, hsh⟩ := obp_e hsh
      refine v_callI (nP := 0) (k := 0) C (isM_lt (f := 0) isM0 (by decide)) (ce_m isM0) rfl (c_X1_pieces l D t ad hI isM0 e3) k311 k341 k309 k310 k2 yo_X1_pieces ⟨Nat.le_of_ble_eq_true rfl, Nat.le_of_ble_eq_true rfl, rfl, rfl, Nat.zero_le _, Nat.zero_le _⟩ rfl rfl (Nat.le_of_ble_eq_true rfl) dX3_reason_28 ?_
      refine v_iconst C dX3_reason_31 (v := 1) (by decide) ?_
      refine v_ic_le C 37 dX3_reason_32 (by decide) (fun hc => ?_) (fun hc => ?_)
      · replace hsh := ite_p hc hsh
        refine v_aloadn C dX3_reason_37 rfl ?_
        refine f3_0 C dX3_reason_38 ?_
        obtain ⟨r6, e5, hsh⟩ := obp_e hsh
        refine v_callI (nP := 0) (k := 0) C (isM_lt (f := 0) isM0 (by decide)) (ce_m isM0) rfl (c_X1_hasUnlikeRates l D t ad hI isM0 e5) k345 k342 k343 k344 k2 yo_X1_hasUnlikeRates ⟨Nat.le_of_ble_eq_true rfl, Nat.le_of_ble_eq_true rfl, rfl, rfl, Nat.zero_le _, Nat.zero_le _⟩ rfl rfl (Nat.le_of_ble_eq_true rfl) dX3_reason_41 ?_
        refine v_if_eq C 49 dX3_reason_44 (by decide) (fun hc => ?_) (fun hc => ?_)
        · replace hsh := ite_p hc hsh
          refine v_aloadn C dX3_reason_49 rfl ?_
          refine f3_0 C dX3_reason_50 ?_
          refine v_iconst C dX3_reason_53 (v := 1) (by decide) ?_
          obtain ⟨r8, e7, hsh⟩ := obp_e hsh
          refine v_callI (nP := 1) (k := 0) C (isM_lt (f := 0) isM0 (by decide)) (ce_m isM0) rfl (c_X1_setting l D t ad hI isM0 e7) k349 k346 k347 k348 k2 yo_X1_setting ⟨Nat.le_of_ble_eq_true rfl, Nat.le_of_ble_eq_true rfl, rfl, rfl, Nat.zero_le _, Nat.zero_le _⟩ rfl rfl (Nat.le_of_ble_eq_true rfl) dX3_reason_54 ?_
          refine v_if_ne C 64 dX3_reason_57 (by decide) (fun hc => ?_) (fun hc => ?_)
          · replace hsh := ite_n hc hsh
            refine v_iconst C dX3_reason_64 (v := 0) (by decide) ?_
            obtain rfl := so_1 hsh
            exact v_iret C dX3_reason_65
          · replace hsh := ite_p hc hsh
            refine v_iconst C dX3_reason_60 (v := 4) (by decide) ?_
            refine v_goto C 65 dX3_reason_61 (by decide) ?_
            obtain rfl := so_1 hsh
            exact v_iret C dX3_reason_65
        · replace hsh := ite_n hc hsh
          refine v_iconst C dX3_reason_47 (v := 3) (by decide) ?_
          obtain rfl := so_1 hsh
          exact v_iret C dX3_reason_48
      · replace hsh := ite_n hc hsh
        refine v_iconst C dX3_reason_35 (v := 2) (by decide) ?_
        obtain rfl := so_1 hsh
        exact v_iret C dX3_reason_36
    · replace hsh := ite_p hc hsh
      refine v_iconst C dX3_reason_22 (v := 1) (by decide) ?_
      obtain rfl := so_1 hsh
      exact v_iret C dX3_reason_23
  · replace hsh := ite_n hc hsh
    refine v_iconst C dX3_reason_10 (v := 0) (by decide) ?_
    obtain rfl := so_1 hsh
    exact v_iret C dX3_reason_11
theorem yo_X3_reason : yOk yX3_reason 0 := ⟨by decide, by decide, by decide +kernel⟩

def sh_X3_spread (G : gG) : Option (Int32) := (if (sh_X1_lampsOn 0 G) = (0 : Int32) then some (-5 : Int32) else (obp (sh_X1_greatestDistance 0 G) fun r2 => some r2))
set_option maxRecDepth 100000 in
set_option maxHeartbeats 4000000 in
theorem c_X3_spread (l : Launch) (D : va_G) (t : gT) (ad : Nat → Nat) (hI : gI ad) {G : gG} {r0 : Int32} (hsh : sh_X3_spread G = some r0) : Mi l D t ad yX3_spread cX3_spread 1 (some .int) (rM 3 67) [.ref (ad 70)] G r0 G := by
  refine m_go hI RX3 rfl (by decide +kernel) ⟨rfl, rfl⟩ (Nat.le_of_ble_eq_true rfl) rfl [some (.ref (ad 70))] rfl (fun p e s m args below meth c C => ?_)
  unfold sh_X3_spread at hsh
  refine v_aloadn C dX3_spread_0 rfl ?_
  refine f3_0 C dX3_spread_1 ?_
  refine v_callI (nP := 0) (k := 0) C (isM_lt (f := 0) isM0 (by decide)) (ce_m isM0) rfl (c_X1_lampsOn l D t ad hI isM0 rfl) k303 k319 k301 k302 k2 yo_X1_lampsOn ⟨Nat.le_of_ble_eq_true rfl, Nat.le_of_ble_eq_true rfl, rfl, rfl, Nat.zero_le _, Nat.zero_le _⟩ rfl rfl (Nat.le_of_ble_eq_true rfl) dX3_spread_4 ?_
  refine v_if_ne C 13 dX3_spread_7 (by decide) (fun hc => ?_) (fun hc => ?_)
  · replace hsh := ite_n hc hsh
    refine v_aloadn C dX3_spread_13 rfl ?_
    refine f3_0 C dX3_spread_14 ?_
    obtain ⟨r2, e1, hsh⟩ := obp_e hsh
    refine v_callI (nP := 0) (k := 0) C (isM_lt (f := 0) isM0 (by decide)) (ce_m isM0) rfl (c_X1_greatestDistance l D t ad hI isM0 e1) k229 k226 k227 k228 k2 yo_X1_greatestDistance ⟨Nat.le_of_ble_eq_true rfl, Nat.le_of_ble_eq_true rfl, rfl, rfl, Nat.zero_le _, Nat.zero_le _⟩ rfl rfl (Nat.le_of_ble_eq_true rfl) dX3_spread_17 ?_
    obtain rfl := so_1 hsh
    exact v_iret C dX3_spread_20
  · replace hsh := ite_p hc hsh
    refine v_bipush C dX3_spread_10 (v := -5) (by decide) ?_
    obtain rfl := so_1 hsh
    exact v_iret C dX3_spread_12
theorem yo_X3_spread : yOk yX3_spread 0 := ⟨by decide, by decide, by decide +kernel⟩

def sh_X3_ifLinked_j66 (x1 : Int32) (x2 : Int32) (x3 : Int32) (G : gG) : Option (Int32 × gG) := (obv (sh_X1_changeLink 9 x1 x2 x3 G) fun G6 => (obi (sh_X3_trialTogetherIn G6) fun r8 G9 => some (r8, G9)))
def sh_X3_ifLinked (l1 : Int32) (l2 : Int32) (G : gG) : Option (Int32 × gG) := (if (sh_X1_has 0 l1 G) = (0 : Int32) then some ((-1 : Int32), G) else (if (sh_X1_has 0 l2 G) = (0 : Int32) then some ((-1 : Int32), G) else (if l1 = l2 then some ((-2 : Int32), G) else (obv (sh_X1_copyFrom 9 0 G) fun G2 => (obp (sh_X1_isLinked 0 l1 l2 G2) fun r4 => (if r4 = (0 : Int32) then (sh_X3_ifLinked_j66 l1 l2 (1 : Int32) G2) else (sh_X3_ifLinked_j66 l1 l2 (0 : Int32) G2)))))))
set_option maxRecDepth 100000 in
set_option maxHeartbeats 4000000 in
theorem c_X3_ifLinked (l : Launch) (D : va_G) (t : gT) (ad : Nat → Nat) (hI : gI ad) {l1 : Int32} {l2 : Int32} {G : gG} {r0 : Int32} {G0 : gG} (hsh : sh_X3_ifLinked l1 l2 G = some (r0, G0)) : Mi l D t ad yX3_ifLinked cX3_ifLinked 3 (some .int) (rM 5 114) [.ref (ad 70), .int l1, .int l2] G r0 G0 := by
  refine m_go hI RX3 rfl (by decide +kernel) ⟨rfl, rfl⟩ (Nat.le_of_ble_eq_true rfl) rfl [some (.ref (ad 70)), some (.int l1), some (.int l2)] rfl (fun p e s m args below meth c C => ?_)
  unfold sh_X3_ifLinked at hsh
  have hj66 : ∀ (x1 : Int32) (x2 : Int32) (x3 : Int32) (G : gG) , sh_X3_ifLinked_j66 x1 x2 x3 G = some (r0, G0) → V p l e (rM 5 114) s m args below meth c (isW ad) D t ad 0 0 3 (Qi below D t ad args s r0 G0) G 66 [some (.ref (ad 70)), none, none] [.int x3, .int x2, .int x1, .ref (ad 9)] := by
    intro x1 x2 x3 G hsh
    unfold sh_X3_ifLinked_j66 at hsh
    obtain ⟨G6, e5, hsh⟩ := obv_e hsh
    refine v_callV (nP := 3) (k := 9) C (isM_lt (f := 0) isM9 (by decide)) (ce_m isM9) rfl (c_X1_changeLink l D t ad hI isM9 e5) k187 k184 k185 k186 k2 yo_X1_changeLink ⟨Nat.le_of_ble_eq_true rfl, Nat.le_of_ble_eq_true rfl, rfl, rfl, Nat.zero_le _, Nat.zero_le _⟩ rfl rfl (Nat.le_of_ble_eq_true rfl) dX3_ifLinked_66 ?_
    refine v_aloadn C dX3_ifLinked_69 rfl ?_
    obtain ⟨r8, G9, e7, hsh⟩ := obi_e hsh
    refine v_callI (nP := 0) (k := 70) C (by decide) rfl rfl (c_X3_trialTogetherIn l D t ad hI  e7) k327 k324 k326 kp10 k1 yo_X3_trialTogetherIn ⟨Nat.le_of_ble_eq_true rfl, Nat.le_of_ble_eq_true rfl, rfl, rfl, Nat.zero_le _, Nat.zero_le _⟩ rfl rfl (Nat.le_of_ble_eq_true rfl) dX3_ifLinked_70 ?_
    obtain ⟨rfl, rfl⟩ := so_i hsh
    exact v_iret C dX3_ifLinked_73
  refine v_aloadn C dX3_ifLinked_0 rfl ?_
  refine f3_0 C dX3_ifLinked_1 ?_
  refine v_iloadn C dX3_ifLinked_4 rfl ?_
  refine v_callI (nP := 1) (k := 0) C (isM_lt (f := 0) isM0 (by decide)) (ce_m isM0) rfl (c_X1_has l D t ad hI isM0 rfl) k255 k252 k253 k254 k2 yo_X1_has ⟨Nat.le_of_ble_eq_true rfl, Nat.le_of_ble_eq_true rfl, rfl, rfl, Nat.zero_le _, Nat.zero_le _⟩ rfl rfl (Nat.le_of_ble_eq_true rfl) dX3_ifLinked_5 ?_
  refine v_if_eq C 22 dX3_ifLinked_8 (by decide) (fun hc => ?_) (fun hc => ?_)
  · replace hsh := ite_p hc hsh
    refine v_iconst C dX3_ifLinked_22 (v := -1) (by decide) ?_
    obtain ⟨rfl, rfl⟩ := so_i hsh
    exact v_iret C dX3_ifLinked_23
  · replace hsh := ite_n hc hsh
    refine v_aloadn C dX3_ifLinked_11 rfl ?_
    refine f3_0 C dX3_ifLinked_12 ?_
    refine v_iloadn C dX3_ifLinked_15 rfl ?_
    refine v_callI (nP := 1) (k := 0) C (isM_lt (f := 0) isM0 (by decide)) (ce_m isM0) rfl (c_X1_has l D t ad hI isM0 rfl) k255 k252 k253 k254 k2 yo_X1_has ⟨Nat.le_of_ble_eq_true rfl, Nat.le_of_ble_eq_true rfl, rfl, rfl, Nat.zero_le _, Nat.zero_le _⟩ rfl rfl (Nat.le_of_ble_eq_true rfl) dX3_ifLinked_16 ?_
    refine v_if_ne C 24 dX3_ifLinked_19 (by decide) (fun hc => ?_) (fun hc => ?_)
    · replace hsh := ite_n hc hsh
      refine v_iloadn C dX3_ifLinked_24 rfl ?_
      refine v_iloadn C dX3_ifLinked_25 rfl ?_
      refine v_ic_ne C 32 dX3_ifLinked_26 (by decide) (fun hc => ?_) (fun hc => ?_)
      · replace hsh := ite_n hc hsh
        refine v_aloadn C dX3_ifLinked_32 rfl ?_
        refine f3_1 C dX3_ifLinked_33 ?_
        refine v_aloadn C dX3_ifLinked_36 rfl ?_
        refine f3_0 C dX3_ifLinked_37 ?_
        obtain ⟨G2, e1, hsh⟩ := obv_e hsh
        refine v_callV (nP := 1) (k := 9) C (isM_lt (f := 0) isM9 (by decide)) (ce_m isM9) rfl (c_X1_copyFrom l D t ad hI isM9 isM0 e1) k180 k177 k178 k179 k2 yo_X1_copyFrom ⟨Nat.le_of_ble_eq_true rfl, Nat.le_of_ble_eq_true rfl, rfl, rfl, Nat.zero_le _, Nat.zero_le _⟩ rfl rfl (Nat.le_of_ble_eq_true rfl) dX3_ifLinked_40 ?_
        refine v_aloadn C dX3_ifLinked_43 rfl ?_
        refine f3_1 C dX3_ifLinked_44 ?_
        refine v_iloadn C dX3_ifLinked_47 rfl ?_
        refine v_iloadn C dX3_ifLinked_48 rfl ?_
        refine v_aloadn C dX3_ifLinked_49 rfl ?_
        refine f3_0 C dX3_ifLinked_50 ?_
        refine v_iloadn C dX3_ifLinked_53 rfl ?_
        refine v_iloadn C dX3_ifLinked_54 rfl ?_
        obtain ⟨r4, e3, hsh⟩ := obp_e hsh
        refine v_callI (nP := 2) (k := 0) C (isM_lt (f := 0) isM0 (by decide)) (ce_m isM0) rfl (c_X1_isLinked l D t ad hI isM0 e3) k172 k441 k170 k171 k2 yo_X1_isLinked ⟨Nat.le_of_ble_eq_true rfl, Nat.le_of_ble_eq_true rfl, rfl, rfl, Nat.zero_le _, Nat.zero_le _⟩ rfl rfl (Nat.le_of_ble_eq_true rfl) dX3_ifLinked_55 ?_
        refine v_if_ne C 65 dX3_ifLinked_58 (by decide) (fun hc => ?_) (fun hc => ?_)
        · replace hsh := ite_n hc hsh
          refine v_iconst C dX3_ifLinked_65 (v := 0) (by decide) ?_
          exact v_wk (hj66 _ _ _ _ hsh) (wk_of (And.intro rfl trivial))
        · replace hsh := ite_p hc hsh
          refine v_iconst C dX3_ifLinked_61 (v := 1) (by decide) ?_
          refine v_goto C 66 dX3_ifLinked_62 (by decide) ?_
          exact v_wk (hj66 _ _ _ _ hsh) (wk_of (And.intro rfl trivial))
      · replace hsh := ite_p hc hsh
        refine v_bipush C dX3_ifLinked_29 (v := -2) (by decide) ?_
        obtain ⟨rfl, rfl⟩ := so_i hsh
        exact v_iret C dX3_ifLinked_31
    · replace hsh := ite_p hc hsh
      refine v_iconst C dX3_ifLinked_22 (v := -1) (by decide) ?_
      obtain ⟨rfl, rfl⟩ := so_i hsh
      exact v_iret C dX3_ifLinked_23
theorem yo_X3_ifLinked : yOk yX3_ifLinked 2 := ⟨by decide, by decide, by decide +kernel⟩

def sh_X3_hub (G : gG) : Option (Int32) := (obp (sh_X1_lampWithMostLinks 0 G) fun r2 => (if r2 = (-1 : Int32) then some (-5 : Int32) else some r2))
set_option maxRecDepth 100000 in
set_option maxHeartbeats 4000000 in
theorem c_X3_hub (l : Launch) (D : va_G) (t : gT) (ad : Nat → Nat) (hI : gI ad) {G : gG} {r0 : Int32} (hsh : sh_X3_hub G = some r0) : Mi l D t ad yX3_hub cX3_hub 2 (some .int) (rM 2 45) [.ref (ad 70)] G r0 G := by
  refine m_go hI RX3 rfl (by decide +kernel) ⟨rfl, rfl⟩ (Nat.le_of_ble_eq_true rfl) rfl [some (.ref (ad 70)), none] rfl (fun p e s m args below meth c C => ?_)
  unfold sh_X3_hub at hsh
  refine v_aloadn C dX3_hub_0 rfl ?_
  refine f3_0 C dX3_hub_1 ?_
  obtain ⟨r2, e1, hsh⟩ := obp_e hsh
  refine v_callI (nP := 0) (k := 0) C (isM_lt (f := 0) isM0 (by decide)) (ce_m isM0) rfl (c_X1_lampWithMostLinks l D t ad hI isM0 e1) k147 k144 k145 k146 k2 yo_X1_lampWithMostLinks ⟨Nat.le_of_ble_eq_true rfl, Nat.le_of_ble_eq_true rfl, rfl, rfl, Nat.zero_le _, Nat.zero_le _⟩ rfl rfl (Nat.le_of_ble_eq_true rfl) dX3_hub_4 ?_
  refine v_istoren C dX3_hub_7 (by decide) ?_
  refine v_iloadn C dX3_hub_8 rfl ?_
  refine v_iconst C dX3_hub_9 (v := -1) (by decide) ?_
  refine v_ic_ne C 18 dX3_hub_10 (by decide) (fun hc => ?_) (fun hc => ?_)
  · replace hsh := ite_n hc hsh
    refine v_iloadn C dX3_hub_18 rfl ?_
    obtain rfl := so_1 hsh
    exact v_iret C dX3_hub_19
  · replace hsh := ite_p hc hsh
    refine v_bipush C dX3_hub_13 (v := -5) (by decide) ?_
    refine v_goto C 19 dX3_hub_15 (by decide) ?_
    obtain rfl := so_1 hsh
    exact v_iret C dX3_hub_19
theorem yo_X3_hub : yOk yX3_hub 0 := ⟨by decide, by decide, by decide +kernel⟩

def sh_X3_spreadWith (l1 : Int32) (l2 : Int32) (G : gG) : Option (Int32 × gG) := (obv (sh_X1_copyFrom 9 0 G) fun G2 => (obv (sh_X1_changeLink 9 l1 l2 (1 : Int32) G2) fun G4 => (obv (sh_X1_tickOften 9 (100 : Int32) G4) fun G6 => (obp (sh_X1_greatestDistance 9 G6) fun r8 => some (r8, G6)))))
set_option maxRecDepth 100000 in
set_option maxHeartbeats 4000000 in
theorem c_X3_spreadWith (l : Launch) (D : va_G) (t : gT) (ad : Nat → Nat) (hI : gI ad) {l1 : Int32} {l2 : Int32} {G : gG} {r0 : Int32} {G0 : gG} (hsh : sh_X3_spreadWith l1 l2 G = some (r0, G0)) : Mi l D t ad yX3_spreadWith cX3_spreadWith 3 (some .int) (rM 5 115) [.ref (ad 70), .int l1, .int l2] G r0 G0 := by
  refine m_go hI RX3 rfl (by decide +kernel) ⟨rfl, rfl⟩ (Nat.le_of_ble_eq_true rfl) rfl [some (.ref (ad 70)), some (.int l1), some (.int l2)] rfl (fun p e s m args below meth c C => ?_)
  unfold sh_X3_spreadWith at hsh
  refine v_aloadn C dX3_spreadWith_0 rfl ?_
  refine f3_1 C dX3_spreadWith_1 ?_
  refine v_aloadn C dX3_spreadWith_4 rfl ?_
  refine f3_0 C dX3_spreadWith_5 ?_
  obtain ⟨G2, e1, hsh⟩ := obv_e hsh
  refine v_callV (nP := 1) (k := 9) C (isM_lt (f := 0) isM9 (by decide)) (ce_m isM9) rfl (c_X1_copyFrom l D t ad hI isM9 isM0 e1) k180 k177 k178 k179 k2 yo_X1_copyFrom ⟨Nat.le_of_ble_eq_true rfl, Nat.le_of_ble_eq_true rfl, rfl, rfl, Nat.zero_le _, Nat.zero_le _⟩ rfl rfl (Nat.le_of_ble_eq_true rfl) dX3_spreadWith_8 ?_
  refine v_aloadn C dX3_spreadWith_11 rfl ?_
  refine f3_1 C dX3_spreadWith_12 ?_
  refine v_iloadn C dX3_spreadWith_15 rfl ?_
  refine v_iloadn C dX3_spreadWith_16 rfl ?_
  refine v_iconst C dX3_spreadWith_17 (v := 1) (by decide) ?_
  obtain ⟨G4, e3, hsh⟩ := obv_e hsh
  refine v_callV (nP := 3) (k := 9) C (isM_lt (f := 0) isM9 (by decide)) (ce_m isM9) rfl (c_X1_changeLink l D t ad hI isM9 e3) k187 k184 k185 k186 k2 yo_X1_changeLink ⟨Nat.le_of_ble_eq_true rfl, Nat.le_of_ble_eq_true rfl, rfl, rfl, Nat.zero_le _, Nat.zero_le _⟩ rfl rfl (Nat.le_of_ble_eq_true rfl) dX3_spreadWith_18 ?_
  refine v_aloadn C dX3_spreadWith_21 rfl ?_
  refine f3_1 C dX3_spreadWith_22 ?_
  refine v_bipush C dX3_spreadWith_25 (v := 100) (by decide) ?_
  obtain ⟨G6, e5, hsh⟩ := obv_e hsh
  refine v_callV (nP := 1) (k := 9) C (isM_lt (f := 0) isM9 (by decide)) (ce_m isM9) rfl (c_X1_tickOften l D t ad hI isM9 e5) k191 k188 k189 k190 k2 yo_X1_tickOften ⟨Nat.le_of_ble_eq_true rfl, Nat.le_of_ble_eq_true rfl, rfl, rfl, Nat.zero_le _, Nat.zero_le _⟩ rfl rfl (Nat.le_of_ble_eq_true rfl) dX3_spreadWith_27 ?_
  refine v_aloadn C dX3_spreadWith_30 rfl ?_
  refine f3_1 C dX3_spreadWith_31 ?_
  obtain ⟨r8, e7, hsh⟩ := obp_e hsh
  refine v_callI (nP := 0) (k := 9) C (isM_lt (f := 0) isM9 (by decide)) (ce_m isM9) rfl (c_X1_greatestDistance l D t ad hI isM9 e7) k229 k226 k227 k228 k2 yo_X1_greatestDistance ⟨Nat.le_of_ble_eq_true rfl, Nat.le_of_ble_eq_true rfl, rfl, rfl, Nat.zero_le _, Nat.zero_le _⟩ rfl rfl (Nat.le_of_ble_eq_true rfl) dX3_spreadWith_34 ?_
  obtain ⟨rfl, rfl⟩ := so_i hsh
  exact v_iret C dX3_spreadWith_37
theorem yo_X3_spreadWith : yOk yX3_spreadWith 2 := ⟨by decide, by decide, by decide +kernel⟩

def sh_X3_bestLink_38  (kt99 : Int32 → Int32 → Int32 → Int32 → Int32 → gG → Option (Int32 × gG)) : Nat → Int32 → Int32 → Int32 → Int32 → Int32 → Int32 → gG → Option (Int32 × gG)
  | 0, _, _, _, _, _, _, _ => none
  | n + 1, l1, l2, l3, l4, l5, l6, G => (if (16 : Int32) ≤ l6 then kt99 l1 l2 l3 l4 l5 G else (obp (sh_X1_couldLink 0 l5 l6 G) fun r2 => (if r2 = (0 : Int32) then sh_X3_bestLink_38 kt99 n l1 l2 l3 l4 l5 (l6 + 1) G else (obi (sh_X3_spreadWith l5 l6 G) fun r4 G5 => (if l4 = (-5 : Int32) then sh_X3_bestLink_38 kt99 n l1 l5 l6 r4 l5 (l6 + 1) G5 else (if l4 ≤ r4 then sh_X3_bestLink_38 kt99 n l1 l2 l3 l4 l5 (l6 + 1) G5 else sh_X3_bestLink_38 kt99 n l1 l5 l6 r4 l5 (l6 + 1) G5))))))
def sh_X3_bestLink_25  (kt105 : Int32 → Int32 → Int32 → Int32 → gG → Option (Int32 × gG)) : Nat → Int32 → Int32 → Int32 → Int32 → Int32 → gG → Option (Int32 × gG)
  | 0, _, _, _, _, _, _ => none
  | n + 1, l1, l2, l3, l4, l5, G => (if (16 : Int32) ≤ l5 then kt105 l1 l2 l3 l4 G else (sh_X3_bestLink_38 (fun l1 l2 l3 l4 l5 G => sh_X3_bestLink_25 kt105 n l1 l2 l3 l4 (l5 + 1) G) FU l1 l2 l3 l4 l5 (l5 + (1 : Int32)) G))
def sh_X3_bestLink (l1 : Int32) (G : gG) : Option (Int32 × gG) := (if l1 < (0 : Int32) then some ((-2 : Int32), G) else (if l1 ≤ (2 : Int32) then (sh_X3_bestLink_25 (fun l1 l2 l3 l4 G => (if l1 = (0 : Int32) then some (l2, G) else (if l1 = (1 : Int32) then some (l3, G) else some (l4, G)))) FU l1 (-5 : Int32) (-5 : Int32) (-5 : Int32) (0 : Int32) G) else some ((-2 : Int32), G)))
set_option maxRecDepth 100000 in
set_option maxHeartbeats 4000000 in
theorem lp_X3_bestLink_38 {p : Program} {l : Launch} {e : Env} {s : State} {m : MethodId} {args : Array Value} {below : List Frame} {meth : Method} {c : Code} {D : va_G} {t : gT} {ad : Nat → Nat} (C : gC p s m args meth c cX3_bestLink RX3 8 (some .int) (isW ad) D t ad) (hI : gI ad) {r0 : Int32} {G0 : gG} {kt99 : Int32 → Int32 → Int32 → Int32 → Int32 → gG → Option (Int32 × gG)} (hk99 : ∀ (l1 : Int32) (l2 : Int32) (l3 : Int32) (l4 : Int32) (l5 : Int32) (G : gG) , kt99 l1 l2 l3 l4 l5 G = some (r0, G0) → V p l e (rM 6 137) s m args below meth c (isW ad) D t ad 0 0 8 (Qi below D t ad args s r0 G0) G 99 [some (.ref (ad 70)), some (.int l1), some (.int l2), some (.int l3), some (.int l4), some (.int l5), none, none] []) : ∀ (n : Nat) (l1 : Int32) (l2 : Int32) (l3 : Int32) (l4 : Int32) (l5 : Int32) (l6 : Int32) (G : gG) , sh_X3_bestLink_38 kt99 n l1 l2 l3 l4 l5 l6 G = some (r0, G0) → V p l e (rM 6 137) s m args below meth c (isW ad) D t ad 0 0 8 (Qi below D t ad args s r0 G0) G 38 [some (.ref (ad 70)), some (.int l1), some (.int l2), some (.int l3), some (.int l4), some (.int l5), some (.int l6), none] [] := by
  intro n
  induction n with
  | zero => intro l1 l2 l3 l4 l5 l6 G hsh; rw [sh_X3_bestLink_38.eq_1] at hsh; cases hsh
  | succ n ih =>
    intro l1 l2 l3 l4 l5 l6 G hsh
    rw [sh_X3_bestLink_38.eq_2] at hsh
    refine v_iload C dX3_bestLink_38 rfl ?_
    refine v_bipush C dX3_bestLink_40 (v := 16) (by decide) ?_
    refine v_ic_ge C 99 dX3_bestLink_42 (by decide) (fun hc => ?_) (fun hc => ?_)
    · replace hsh := ite_p hc hsh
      exact v_wk (hk99 _ _ _ _ _ _ hsh) (wk_of (And.intro rfl (And.intro rfl (And.intro rfl (And.intro rfl (And.intro rfl (And.intro rfl trivial)))))))
    · replace hsh := ite_n hc hsh
      refine v_aloadn C dX3_bestLink_45 rfl ?_
      refine f3_0 C dX3_bestLink_46 ?_
      refine v_iload C dX3_bestLink_49 rfl ?_
      refine v_iload C dX3_bestLink_51 rfl ?_
      obtain ⟨r2, e1, hsh⟩ := obp_e hsh
      refine v_callI (nP := 2) (k := 0) C (isM_lt (f := 0) isM0 (by decide)) (ce_m isM0) rfl (c_X1_couldLink l D t ad hI isM0 e1) k164 k161 k162 k163 k2 yo_X1_couldLink ⟨Nat.le_of_ble_eq_true rfl, Nat.le_of_ble_eq_true rfl, rfl, rfl, Nat.zero_le _, Nat.zero_le _⟩ rfl rfl (Nat.le_of_ble_eq_true rfl) dX3_bestLink_53 ?_
      refine v_if_eq C 93 dX3_bestLink_56 (by decide) (fun hc => ?_) (fun hc => ?_)
      · replace hsh := ite_p hc hsh
        refine v_iinc C dX3_bestLink_93 rfl (v := 1) (by decide) (by decide) ?_
        refine v_goto C 38 dX3_bestLink_96 (by decide) ?_
        exact v_wk (ih _ _ _ _ _ _ _ hsh) (wk_of (And.intro rfl (And.intro rfl (And.intro rfl (And.intro rfl (And.intro rfl (And.intro rfl (And.intro rfl trivial))))))))
      · replace hsh := ite_n hc hsh
        refine v_aloadn C dX3_bestLink_59 rfl ?_
        refine v_iload C dX3_bestLink_60 rfl ?_
        refine v_iload C dX3_bestLink_62 rfl ?_
        obtain ⟨r4, G5, e3, hsh⟩ := obi_e hsh
        refine v_callI (nP := 2) (k := 70) C (by decide) rfl rfl (c_X3_spreadWith l D t ad hI  e3) k176 k173 k175 kp0 k1 yo_X3_spreadWith ⟨Nat.le_of_ble_eq_true rfl, Nat.le_of_ble_eq_true rfl, rfl, rfl, Nat.zero_le _, Nat.zero_le _⟩ rfl rfl (Nat.le_of_ble_eq_true rfl) dX3_bestLink_64 ?_
        refine v_istore C dX3_bestLink_67 (by decide) ?_
        refine v_iload C dX3_bestLink_69 rfl ?_
        refine v_bipush C dX3_bestLink_71 (v := -5) (by decide) ?_
        refine v_ic_eq C 83 dX3_bestLink_73 (by decide) (fun hc => ?_) (fun hc => ?_)
        · replace hsh := ite_p hc hsh
          refine v_iload C dX3_bestLink_83 rfl ?_
          refine v_istoren C dX3_bestLink_85 (by decide) ?_
          refine v_iload C dX3_bestLink_86 rfl ?_
          refine v_istoren C dX3_bestLink_88 (by decide) ?_
          refine v_iload C dX3_bestLink_89 rfl ?_
          refine v_istore C dX3_bestLink_91 (by decide) ?_
          refine v_iinc C dX3_bestLink_93 rfl (v := 1) (by decide) (by decide) ?_
          refine v_goto C 38 dX3_bestLink_96 (by decide) ?_
          exact v_wk (ih _ _ _ _ _ _ _ hsh) (wk_of (And.intro rfl (And.intro rfl (And.intro rfl (And.intro rfl (And.intro rfl (And.intro rfl (And.intro rfl trivial))))))))
        · replace hsh := ite_n hc hsh
          refine v_iload C dX3_bestLink_76 rfl ?_
          refine v_iload C dX3_bestLink_78 rfl ?_
          refine v_ic_ge C 93 dX3_bestLink_80 (by decide) (fun hc => ?_) (fun hc => ?_)
          · replace hsh := ite_p hc hsh
            refine v_iinc C dX3_bestLink_93 rfl (v := 1) (by decide) (by decide) ?_
            refine v_goto C 38 dX3_bestLink_96 (by decide) ?_
            exact v_wk (ih _ _ _ _ _ _ _ hsh) (wk_of (And.intro rfl (And.intro rfl (And.intro rfl (And.intro rfl (And.intro rfl (And.intro rfl (And.intro rfl trivial))))))))
          · replace hsh := ite_n hc hsh
            refine v_iload C dX3_bestLink_83 rfl ?_
            refine v_istoren C dX3_bestLink_85 (by decide) ?_
            refine v_iload C dX3_bestLink_86 rfl ?_
            refine v_istoren C dX3_bestLink_88 (by decide) ?_
            refine v_iload C dX3_bestLink_89 rfl ?_
            refine v_istore C dX3_bestLink_91 (by decide) ?_
            refine v_iinc C dX3_bestLink_93 rfl (v := 1) (by decide) (by decide) ?_
            refine v_goto C 38 dX3_bestLink_96 (by decide) ?_
            exact v_wk (ih _ _ _ _ _ _ _ hsh) (wk_of (And.intro rfl (And.intro rfl (And.intro rfl (And.intro rfl (And.intro rfl (And.intro rfl (And.intro rfl trivial))))))))
set_option maxRecDepth 100000 in
set_option maxHeartbeats 4000000 in
theorem lp_X3_bestLink_25 {p : Program} {l : Launch} {e : Env} {s : State} {m : MethodId} {args : Array Value} {below : List Frame} {meth : Method} {c : Code} {D : va_G} {t : gT} {ad : Nat → Nat} (C : gC p s m args meth c cX3_bestLink RX3 8 (some .int) (isW ad) D t ad) (hI : gI ad) {r0 : Int32} {G0 : gG} {kt105 : Int32 → Int32 → Int32 → Int32 → gG → Option (Int32 × gG)} (hk105 : ∀ (l1 : Int32) (l2 : Int32) (l3 : Int32) (l4 : Int32) (G : gG) , kt105 l1 l2 l3 l4 G = some (r0, G0) → V p l e (rM 6 137) s m args below meth c (isW ad) D t ad 0 0 8 (Qi below D t ad args s r0 G0) G 105 [none, some (.int l1), some (.int l2), some (.int l3), some (.int l4), none, none, none] []) : ∀ (n : Nat) (l1 : Int32) (l2 : Int32) (l3 : Int32) (l4 : Int32) (l5 : Int32) (G : gG) , sh_X3_bestLink_25 kt105 n l1 l2 l3 l4 l5 G = some (r0, G0) → V p l e (rM 6 137) s m args below meth c (isW ad) D t ad 0 0 8 (Qi below D t ad args s r0 G0) G 25 [some (.ref (ad 70)), some (.int l1), some (.int l2), some (.int l3), some (.int l4), some (.int l5), none, none] [] := by
  intro n
  induction n with
  | zero => intro l1 l2 l3 l4 l5 G hsh; rw [sh_X3_bestLink_25.eq_1] at hsh; cases hsh
  | succ n ih =>
    intro l1 l2 l3 l4 l5 G hsh
    rw [sh_X3_bestLink_25.eq_2] at hsh
    refine v_iload C dX3_bestLink_25 rfl ?_
    refine v_bipush C dX3_bestLink_27 (v := 16) (by decide) ?_
    refine v_ic_ge C 105 dX3_bestLink_29 (by decide) (fun hc => ?_) (fun hc => ?_)
    · replace hsh := ite_p hc hsh
      exact v_wk (hk105 _ _ _ _ _ hsh) (wk_of (And.intro rfl (And.intro rfl (And.intro rfl (And.intro rfl trivial)))))
    · replace hsh := ite_n hc hsh
      refine v_iload C dX3_bestLink_32 rfl ?_
      refine v_iconst C dX3_bestLink_34 (v := 1) (by decide) ?_
      refine v_iadd C dX3_bestLink_35 ?_
      refine v_istore C dX3_bestLink_36 (by decide) ?_
      refine v_wk (lp_X3_bestLink_38 C hI (fun l1 l2 l3 l4 l5 G hsh => ?_) FU _ _ _ _ _ _ _ hsh) (wk_of (And.intro rfl (And.intro rfl (And.intro rfl (And.intro rfl (And.intro rfl (And.intro rfl (And.intro rfl trivial))))))))
      refine v_iinc C dX3_bestLink_99 rfl (v := 1) (by decide) (by decide) ?_
      refine v_goto C 25 dX3_bestLink_102 (by decide) ?_
      exact v_wk (ih _ _ _ _ _ _ hsh) (wk_of (And.intro rfl (And.intro rfl (And.intro rfl (And.intro rfl (And.intro rfl (And.intro rfl trivial)))))))
set_option maxRecDepth 100000 in
set_option maxHeartbeats 4000000 in
theorem c_X3_bestLink (l : Launch) (D : va_G) (t : gT) (ad : Nat → Nat) (hI : gI ad) {l1 : Int32} {G : gG} {r0 : Int32} {G0 : gG} (hsh : sh_X3_bestLink l1 G = some (r0, G0)) : Mi l D t ad yX3_bestLink cX3_bestLink 8 (some .int) (rM 6 137) [.ref (ad 70), .int l1] G r0 G0 := by
  refine m_go hI RX3 rfl (by decide +kernel) ⟨rfl, rfl⟩ (Nat.le_of_ble_eq_true rfl) rfl [some (.ref (ad 70)), some (.int l1), none, none, none, none, none, none] rfl (fun p e s m args below meth c C => ?_)
  unfold sh_X3_bestLink at hsh
  refine v_iloadn C dX3_bestLink_0 rfl ?_
  refine v_if_lt C 9 dX3_bestLink_1 (by decide) (fun hc => ?_) (fun hc => ?_)
  · replace hsh := ite_p hc hsh
    refine v_bipush C dX3_bestLink_9 (v := -2) (by decide) ?_
    obtain ⟨rfl, rfl⟩ := so_i hsh
    exact v_iret C dX3_bestLink_11
  · replace hsh := ite_n hc hsh
    refine v_iloadn C dX3_bestLink_4 rfl ?_
    refine v_iconst C dX3_bestLink_5 (v := 2) (by decide) ?_
    refine v_ic_le C 12 dX3_bestLink_6 (by decide) (fun hc => ?_) (fun hc => ?_)
    · replace hsh := ite_p hc hsh
      refine v_bipush C dX3_bestLink_12 (v := -5) (by decide) ?_
      refine v_istoren C dX3_bestLink_14 (by decide) ?_
      refine v_bipush C dX3_bestLink_15 (v := -5) (by decide) ?_
      refine v_istoren C dX3_bestLink_17 (by decide) ?_
      refine v_bipush C dX3_bestLink_18 (v := -5) (by decide) ?_
      refine v_istore C dX3_bestLink_20 (by decide) ?_
      refine v_iconst C dX3_bestLink_22 (v := 0) (by decide) ?_
      refine v_istore C dX3_bestLink_23 (by decide) ?_
      refine v_wk (lp_X3_bestLink_25 C hI (fun l1 l2 l3 l4 G hsh => ?_) FU _ _ _ _ _ _ hsh) (wk_of (And.intro rfl (And.intro rfl (And.intro rfl (And.intro rfl (And.intro rfl (And.intro rfl trivial)))))))
      refine v_iloadn C dX3_bestLink_105 rfl ?_
      refine v_if_ne C 111 dX3_bestLink_106 (by decide) (fun hc => ?_) (fun hc => ?_)
      · replace hsh := ite_n hc hsh
        refine v_iloadn C dX3_bestLink_111 rfl ?_
        refine v_iconst C dX3_bestLink_112 (v := 1) (by decide) ?_
        refine v_ic_ne C 120 dX3_bestLink_113 (by decide) (fun hc => ?_) (fun hc => ?_)
        · replace hsh := ite_n hc hsh
          refine v_iload C dX3_bestLink_120 rfl ?_
          obtain ⟨rfl, rfl⟩ := so_i hsh
          exact v_iret C dX3_bestLink_122
        · replace hsh := ite_p hc hsh
          refine v_iloadn C dX3_bestLink_116 rfl ?_
          refine v_goto C 122 dX3_bestLink_117 (by decide) ?_
          obtain ⟨rfl, rfl⟩ := so_i hsh
          exact v_iret C dX3_bestLink_122
      · replace hsh := ite_p hc hsh
        refine v_iloadn C dX3_bestLink_109 rfl ?_
        obtain ⟨rfl, rfl⟩ := so_i hsh
        exact v_iret C dX3_bestLink_110
    · replace hsh := ite_n hc hsh
      refine v_bipush C dX3_bestLink_9 (v := -2) (by decide) ?_
      obtain ⟨rfl, rfl⟩ := so_i hsh
      exact v_iret C dX3_bestLink_11
theorem yo_X3_bestLink : yOk yX3_bestLink 1 := ⟨by decide, by decide, by decide +kernel⟩

def sh_X3_count (l1 : Int32) (G : gG) : Option (Int32) := (if l1 = (12 : Int32) then some (sh_X0_size G) else (if l1 = (13 : Int32) then some (sh_X2_length G) else (obp (sh_X1_tellMesh 0 l1 G) fun r2 => some r2)))
set_option maxRecDepth 100000 in
set_option maxHeartbeats 4000000 in
theorem c_X3_count (l : Launch) (D : va_G) (t : gT) (ad : Nat → Nat) (hI : gI ad) {l1 : Int32} {G : gG} {r0 : Int32} (hsh : sh_X3_count l1 G = some r0) : Mi l D t ad yX3_count cX3_count 2 (some .int) (rM 5 112) [.ref (ad 70), .int l1] G r0 G := by
  refine m_go hI RX3 rfl (by decide +kernel) ⟨rfl, rfl⟩ (Nat.le_of_ble_eq_true rfl) rfl [some (.ref (ad 70)), some (.int l1)] rfl (fun p e s m args below meth c C => ?_)
  unfold sh_X3_count at hsh
  refine v_iloadn C dX3_count_0 rfl ?_
  refine v_bipush C dX3_count_1 (v := 12) (by decide) ?_
  refine v_ic_ne C 14 dX3_count_3 (by decide) (fun hc => ?_) (fun hc => ?_)
  · replace hsh := ite_n hc hsh
    refine v_iloadn C dX3_count_14 rfl ?_
    refine v_bipush C dX3_count_15 (v := 13) (by decide) ?_
    refine v_ic_ne C 28 dX3_count_17 (by decide) (fun hc => ?_) (fun hc => ?_)
    · replace hsh := ite_n hc hsh
      refine v_aloadn C dX3_count_28 rfl ?_
      refine f3_0 C dX3_count_29 ?_
      refine v_iloadn C dX3_count_32 rfl ?_
      obtain ⟨r2, e1, hsh⟩ := obp_e hsh
      refine v_callI (nP := 1) (k := 0) C (isM_lt (f := 0) isM0 (by decide)) (ce_m isM0) rfl (c_X1_tellMesh l D t ad hI isM0 e1) k295 k292 k293 k294 k2 yo_X1_tellMesh ⟨Nat.le_of_ble_eq_true rfl, Nat.le_of_ble_eq_true rfl, rfl, rfl, Nat.zero_le _, Nat.zero_le _⟩ rfl rfl (Nat.le_of_ble_eq_true rfl) dX3_count_33 ?_
      obtain rfl := so_1 hsh
      exact v_iret C dX3_count_36
    · replace hsh := ite_p hc hsh
      refine v_aloadn C dX3_count_20 rfl ?_
      refine f3_5 C dX3_count_21 ?_
      refine v_callI (nP := 0) (k := 65) C (by decide) rfl rfl (c_X2_length l D t ad hI  rfl) k291 k288 k289 k290 k4 yo_X2_length ⟨Nat.le_of_ble_eq_true rfl, Nat.le_of_ble_eq_true rfl, rfl, rfl, Nat.zero_le _, Nat.zero_le _⟩ rfl rfl (Nat.le_of_ble_eq_true rfl) dX3_count_24 ?_
      obtain rfl := so_1 hsh
      exact v_iret C dX3_count_27
  · replace hsh := ite_p hc hsh
    refine v_aloadn C dX3_count_6 rfl ?_
    refine f3_4 C dX3_count_7 ?_
    refine v_callI (nP := 0) (k := 63) C (by decide) rfl rfl (c_X0_size l D t ad hI  rfl) k287 k284 k285 k286 k3 yo_X0_size ⟨Nat.le_of_ble_eq_true rfl, Nat.le_of_ble_eq_true rfl, rfl, rfl, Nat.zero_le _, Nat.zero_le _⟩ rfl rfl (Nat.le_of_ble_eq_true rfl) dX3_count_10 ?_
    obtain rfl := so_1 hsh
    exact v_iret C dX3_count_13
theorem yo_X3_count : yOk yX3_count 1 := ⟨by decide, by decide, by decide +kernel⟩
