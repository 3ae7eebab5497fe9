def sh_X3_holds (l0 : Int32) (l1 : Int32) : Int32 := (if ((l0 >>> (l1 &&& 31)) &&& (1 : Int32)) = (0 : Int32) then (0 : Int32) else (1 : Int32))
set_option maxRecDepth 100000 in
set_option maxHeartbeats 4000000 in
theorem c_X3_holds (l : Launch) (D : va_G) (t : gT) (ad : Nat → Nat) (hI : gI ad) {l0 : Int32} {l1 : Int32} {G : gG} {r0 : Int32} (hsh : sh_X3_holds l0 l1 = r0) : Mi l D t ad yX3_holds cX3_holds 2 (some .boolean) (rM 0 0) [.int l0, .int l1] G r0 G := by
  refine m_go hI RX3 rfl (by decide +kernel) ⟨rfl, rfl⟩ (Nat.le_of_ble_eq_true rfl) rfl [some (.int l0), some (.int l1)] rfl (fun p e s m args below meth c C => ?_)
  unfold sh_X3_holds at hsh
  refine v_iloadn C dX3_holds_0 rfl ?_
  refine v_iloadn C dX3_holds_1 rfl ?_
  refine v_ishr C dX3_holds_2 ?_
  refine v_iconst C dX3_holds_3 (v := 1) (by decide) ?_
  refine v_iand C dX3_holds_4 ?_
  refine v_if_eq C 12 dX3_holds_5 (by decide) (fun hc => ?_) (fun hc => ?_)
  · replace hsh := ite_p hc hsh
    refine v_iconst C dX3_holds_12 (v := 0) (by decide) ?_
    subst hsh
    exact v_zret C (Or.inl rfl) dX3_holds_13
  · replace hsh := ite_n hc hsh
    refine v_iconst C dX3_holds_8 (v := 1) (by decide) ?_
    refine v_goto C 13 dX3_holds_9 (by decide) ?_
    subst hsh
    exact v_zret C (Or.inr rfl) dX3_holds_13
theorem nb_X3_holds {l0 : Int32} {l1 : Int32}  : nb (sh_X3_holds l0 l1) := by
  unfold sh_X3_holds
  repeat' split
  all_goals first | exact Or.inl rfl | exact Or.inr rfl | exact nb_X3_holds
theorem yo_X3_holds : yOk yX3_holds 2 := ⟨by decide, by decide, by decide +kernel⟩

def sh_J6_bitCount_0f7a4_j48 (l0 : Int32) : Int32 := (l0 &&& (63 : Int32))
def sh_J6_bitCount_0f7a4_j41 (l0 : Int32) : Int32 := (sh_J6_bitCount_0f7a4_j48 (l0 + (((l0).toUInt32 >>> (((16 : Int32)).toUInt32 &&& Int32.toUInt32 31)).toInt32)))
def sh_J6_bitCount_0f7a4_j34 (l0 : Int32) : Int32 := (sh_J6_bitCount_0f7a4_j41 (l0 + (((l0).toUInt32 >>> (((8 : Int32)).toUInt32 &&& Int32.toUInt32 31)).toInt32)))
def sh_J6_bitCount_0f7a4_j24 (l0 : Int32) : Int32 := (sh_J6_bitCount_0f7a4_j34 ((l0 + (((l0).toUInt32 >>> (((4 : Int32)).toUInt32 &&& Int32.toUInt32 31)).toInt32)) &&& (252645135 : Int32)))
def sh_J6_bitCount_0f7a4_j10 (l0 : Int32) : Int32 := (sh_J6_bitCount_0f7a4_j24 ((l0 &&& (858993459 : Int32)) + ((((l0).toUInt32 >>> (((2 : Int32)).toUInt32 &&& Int32.toUInt32 31)).toInt32) &&& (858993459 : Int32))))
def sh_J6_bitCount_0f7a4 (l0 : Int32) : Int32 := (sh_J6_bitCount_0f7a4_j10 (l0 - ((((l0).toUInt32 >>> (((1 : Int32)).toUInt32 &&& Int32.toUInt32 31)).toInt32) &&& (1431655765 : Int32))))
set_option maxRecDepth 100000 in
set_option maxHeartbeats 4000000 in
theorem c_J6_bitCount_0f7a4 (l : Launch) (D : va_G) (t : gT) (ad : Nat → Nat) (hI : gI ad) {l0 : Int32} {G : gG} {r0 : Int32} (hsh : sh_J6_bitCount_0f7a4 l0 = r0) : Mi l D t ad yJ6_bitCount_0f7a4 cJ6_bitCount_0f7a4 1 (some .int) (rM 0 0) [.int l0] G r0 G := by
  refine m_go hI RJ6 rfl (by decide +kernel) ⟨rfl, rfl⟩ (Nat.le_of_ble_eq_true rfl) rfl [some (.int l0)] rfl (fun p e s m args below meth c C => ?_)
  unfold sh_J6_bitCount_0f7a4 at hsh
  have hj48 : ∀ (l0 : Int32) , sh_J6_bitCount_0f7a4_j48 l0 = r0 → V p l e (rM 0 0) s m args below meth c (isW ad) D t ad 0 0 1 (Qi below D t ad args s r0 G) G 48 [some (.int l0)] [] := by
    intro l0 hsh
    unfold sh_J6_bitCount_0f7a4_j48 at hsh
    refine v_iloadn C dJ6_bitCount_0f7a4_48 rfl ?_
    refine v_bipush C dJ6_bitCount_0f7a4_49 (v := 63) (by decide) ?_
    refine v_iand C dJ6_bitCount_0f7a4_51 ?_
    subst hsh
    exact v_iret C dJ6_bitCount_0f7a4_52
  have hj41 : ∀ (l0 : Int32) , sh_J6_bitCount_0f7a4_j41 l0 = r0 → V p l e (rM 0 0) s m args below meth c (isW ad) D t ad 0 0 1 (Qi below D t ad args s r0 G) G 41 [some (.int l0)] [] := by
    intro l0 hsh
    unfold sh_J6_bitCount_0f7a4_j41 at hsh
    refine v_iloadn C dJ6_bitCount_0f7a4_41 rfl ?_
    refine v_iloadn C dJ6_bitCount_0f7a4_42 rfl ?_
    refine v_bipush C dJ6_bitCount_0f7a4_43 (v := 16) (by decide) ?_
    refine v_iushr C dJ6_bitCount_0f7a4_45 ?_
    refine v_iadd C dJ6_bitCount_0f7a4_46 ?_
    refine v_istoren C dJ6_bitCount_0f7a4_47 (by decide) ?_
    exact v_wk (hj48 _ hsh) (wk_of (And.intro rfl trivial))
  have hj34 : ∀ (l0 : Int32) , sh_J6_bitCount_0f7a4_j34 l0 = r0 → V p l e (rM 0 0) s m args below meth c (isW ad) D t ad 0 0 1 (Qi below D t ad args s r0 G) G 34 [some (.int l0)] [] := by
    intro l0 hsh
    unfold sh_J6_bitCount_0f7a4_j34 at hsh
    refine v_iloadn C dJ6_bitCount_0f7a4_34 rfl ?_
    refine v_iloadn C dJ6_bitCount_0f7a4_35 rfl ?_
    refine v_bipush C dJ6_bitCount_0f7a4_36 (v := 8) (by decide) ?_
    refine v_iushr C dJ6_bitCount_0f7a4_38 ?_
    refine v_iadd C dJ6_bitCount_0f7a4_39 ?_
    refine v_istoren C dJ6_bitCount_0f7a4_40 (by decide) ?_
    exact v_wk (hj41 _ hsh) (wk_of (And.intro rfl trivial))
  have hj24 : ∀ (l0 : Int32) , sh_J6_bitCount_0f7a4_j24 l0 = r0 → V p l e (rM 0 0) s m args below meth c (isW ad) D t ad 0 0 1 (Qi below D t ad args s r0 G) G 24 [some (.int l0)] [] := by
    intro l0 hsh
    unfold sh_J6_bitCount_0f7a4_j24 at hsh
    refine v_iloadn C dJ6_bitCount_0f7a4_24 rfl ?_
    refine v_iloadn C dJ6_bitCount_0f7a4_25 rfl ?_
    refine v_iconst C dJ6_bitCount_0f7a4_26 (v := 4) (by decide) ?_
    refine v_iushr C dJ6_bitCount_0f7a4_27 ?_
    refine v_iadd C dJ6_bitCount_0f7a4_28 ?_
    refine v_ldcw C k153 dJ6_bitCount_0f7a4_29 ?_
    refine v_iand C dJ6_bitCount_0f7a4_32 ?_
    refine v_istoren C dJ6_bitCount_0f7a4_33 (by decide) ?_
    exact v_wk (hj34 _ hsh) (wk_of (And.intro rfl trivial))
  have hj10 : ∀ (l0 : Int32) , sh_J6_bitCount_0f7a4_j10 l0 = r0 → V p l e (rM 0 0) s m args below meth c (isW ad) D t ad 0 0 1 (Qi below D t ad args s r0 G) G 10 [some (.int l0)] [] := by
    intro l0 hsh
    unfold sh_J6_bitCount_0f7a4_j10 at hsh
    refine v_iloadn C dJ6_bitCount_0f7a4_10 rfl ?_
    refine v_ldcw C k152 dJ6_bitCount_0f7a4_11 ?_
    refine v_iand C dJ6_bitCount_0f7a4_14 ?_
    refine v_iloadn C dJ6_bitCount_0f7a4_15 rfl ?_
    refine v_iconst C dJ6_bitCount_0f7a4_16 (v := 2) (by decide) ?_
    refine v_iushr C dJ6_bitCount_0f7a4_17 ?_
    refine v_ldcw C k152 dJ6_bitCount_0f7a4_18 ?_
    refine v_iand C dJ6_bitCount_0f7a4_21 ?_
    refine v_iadd C dJ6_bitCount_0f7a4_22 ?_
    refine v_istoren C dJ6_bitCount_0f7a4_23 (by decide) ?_
    exact v_wk (hj24 _ hsh) (wk_of (And.intro rfl trivial))
  refine v_iloadn C dJ6_bitCount_0f7a4_0 rfl ?_
  refine v_iloadn C dJ6_bitCount_0f7a4_1 rfl ?_
  refine v_iconst C dJ6_bitCount_0f7a4_2 (v := 1) (by decide) ?_
  refine v_iushr C dJ6_bitCount_0f7a4_3 ?_
  refine v_ldcw C k151 dJ6_bitCount_0f7a4_4 ?_
  refine v_iand C dJ6_bitCount_0f7a4_7 ?_
  refine v_isub C dJ6_bitCount_0f7a4_8 ?_
  refine v_istoren C dJ6_bitCount_0f7a4_9 (by decide) ?_
  exact v_wk (hj10 _ hsh) (wk_of (And.intro rfl trivial))
theorem yo_J6_bitCount_0f7a4 : yOk yJ6_bitCount_0f7a4 1 := ⟨by decide, by decide, by decide +kernel⟩

def sh_X3_isRate (l0 : Int32) : Int32 := (if l0 < (50 : Int32) then (0 : Int32) else (if (150 : Int32) < l0 then (0 : Int32) else (1 : Int32)))
set_option maxRecDepth 100000 in
set_option maxHeartbeats 4000000 in
theorem c_X3_isRate (l : Launch) (D : va_G) (t : gT) (ad : Nat → Nat) (hI : gI ad) {l0 : Int32} {G : gG} {r0 : Int32} (hsh : sh_X3_isRate l0 = r0) : Mi l D t ad yX3_isRate cX3_isRate 1 (some .boolean) (rM 0 0) [.int l0] G r0 G := by
  refine m_go hI RX3 rfl (by decide +kernel) ⟨rfl, rfl⟩ (Nat.le_of_ble_eq_true rfl) rfl [some (.int l0)] rfl (fun p e s m args below meth c C => ?_)
  unfold sh_X3_isRate at hsh
  refine v_iloadn C dX3_isRate_0 rfl ?_
  refine v_bipush C dX3_isRate_1 (v := 50) (by decide) ?_
  refine v_ic_lt C 17 dX3_isRate_3 (by decide) (fun hc => ?_) (fun hc => ?_)
  · replace hsh := ite_p hc hsh
    refine v_iconst C dX3_isRate_17 (v := 0) (by decide) ?_
    subst hsh
    exact v_zret C (Or.inl rfl) dX3_isRate_18
  · replace hsh := ite_n hc hsh
    refine v_iloadn C dX3_isRate_6 rfl ?_
    refine v_sipush C dX3_isRate_7 (v := 150) (by decide) ?_
    refine v_ic_gt C 17 dX3_isRate_10 (by decide) (fun hc => ?_) (fun hc => ?_)
    · replace hsh := ite_p hc hsh
      refine v_iconst C dX3_isRate_17 (v := 0) (by decide) ?_
      subst hsh
      exact v_zret C (Or.inl rfl) dX3_isRate_18
    · replace hsh := ite_n hc hsh
      refine v_iconst C dX3_isRate_13 (v := 1) (by decide) ?_
      refine v_goto C 18 dX3_isRate_14 (by decide) ?_
      subst hsh
      exact v_zret C (Or.inr rfl) dX3_isRate_18
theorem nb_X3_isRate {l0 : Int32}  : nb (sh_X3_isRate l0) := by
  unfold sh_X3_isRate
  repeat' split
  all_goals first | exact Or.inl rfl | exact Or.inr rfl | exact nb_X3_holds
theorem yo_X3_isRate : yOk yX3_isRate 1 := ⟨by decide, by decide, by decide +kernel⟩

def sh_X1_copyFrom (k : Nat) (q1 : Nat) (G : gG) : Option (gG) := (bng (gcp G (q1 + 1) (k + 1) 16) fun G1 => (bng (gcp G1 (q1 + 2) (k + 2) 16) fun G3 => (bng (gcp G3 (q1 + 3) (k + 3) 16) fun G5 => (bng (gcp G5 (q1 + 4) (k + 4) 16) fun G7 => (bng (gcp G7 (q1 + 5) (k + 5) 16) fun G9 => (bng (gcp G9 (q1 + 6) (k + 6) 16) fun G11 => (bng (gcp G11 (q1 + 7) (k + 7) 16) fun G13 => (bng (gcp G13 (q1 + 8) (k + 8) 3) fun G15 => (bng (gu G15 k 8 (G15 q1 8)) fun G17 => (bng (gu G17 k 9 (G17 q1 9)) fun G19 => (bng (gu G19 k 10 (G19 q1 10)) fun G21 => (bng (gu G21 k 11 (G21 q1 11)) fun G23 => (bng (gu G23 k 12 (G23 q1 12)) fun G25 => (bng (gu G25 k 13 (G25 q1 13)) fun G27 => (bng (gu G27 k 14 (G27 q1 14)) fun G29 => some G29)))))))))))))))
set_option maxRecDepth 100000 in
set_option maxHeartbeats 4000000 in
theorem c_X1_copyFrom (l : Launch) (D : va_G) (t : gT) (ad : Nat → Nat) (hI : gI ad) {k : Nat} (hm : isM k) {q1 : Nat} (hq1 : isM q1) {G : gG} {G0 : gG} (hsh : sh_X1_copyFrom k q1 G = some G0) : Mv l D t ad yX1_copyFrom cX1_copyFrom 2 (rM 1 26) [.ref (ad k), .ref (ad q1)] G G0 := by
  refine m_go hI RX1 rfl (by decide +kernel) ⟨rfl, rfl⟩ (Nat.le_of_ble_eq_true rfl) rfl [some (.ref (ad k)), some (.ref (ad q1))] rfl (fun p e s m args below meth c C => ?_)
  unfold sh_X1_copyFrom at hsh
  refine v_aloadn C dX1_copyFrom_0 rfl ?_
  refine f1_0 C hq1 dX1_copyFrom_1 ?_
  refine v_iconst C dX1_copyFrom_4 (v := 0) (by decide) ?_
  refine v_aloadn C dX1_copyFrom_5 rfl ?_
  refine f1_0 C hm dX1_copyFrom_6 ?_
  refine v_iconst C dX1_copyFrom_9 (v := 0) (by decide) ?_
  refine v_bipush C dX1_copyFrom_10 (v := 16) (by decide) ?_
  refine v_copy C (M := 16) (isM_lt hq1 (by decide)) (isM_lt hm (by decide)) (fun _ => ce_ma hq1 (by decide) (by decide)) (fun _ => ce_ma hm (by decide) (by decide)) ⟨by decide, by decide⟩ (by decide) k181 k183 k182 k7 ⟨Nat.le_of_ble_eq_true rfl, Nat.le_of_ble_eq_true rfl⟩ (Nat.le_of_ble_eq_true rfl) dX1_copyFrom_12 ?_
  obtain ⟨G1, e2, hsh⟩ := bng_e hsh
  refine v_bg e2 ?_
  refine v_aloadn C dX1_copyFrom_15 rfl ?_
  refine f1_1 C hq1 dX1_copyFrom_16 ?_
  refine v_iconst C dX1_copyFrom_19 (v := 0) (by decide) ?_
  refine v_aloadn C dX1_copyFrom_20 rfl ?_
  refine f1_1 C hm dX1_copyFrom_21 ?_
  refine v_iconst C dX1_copyFrom_24 (v := 0) (by decide) ?_
  refine v_bipush C dX1_copyFrom_25 (v := 16) (by decide) ?_
  refine v_copy C (M := 16) (isM_lt hq1 (by decide)) (isM_lt hm (by decide)) (fun _ => ce_ma hq1 (by decide) (by decide)) (fun _ => ce_ma hm (by decide) (by decide)) ⟨by decide, by decide⟩ (by decide) k181 k183 k182 k7 ⟨Nat.le_of_ble_eq_true rfl, Nat.le_of_ble_eq_true rfl⟩ (Nat.le_of_ble_eq_true rfl) dX1_copyFrom_27 ?_
  obtain ⟨G3, e4, hsh⟩ := bng_e hsh
  refine v_bg e4 ?_
  refine v_aloadn C dX1_copyFrom_30 rfl ?_
  refine f1_2 C hq1 dX1_copyFrom_31 ?_
  refine v_iconst C dX1_copyFrom_34 (v := 0) (by decide) ?_
  refine v_aloadn C dX1_copyFrom_35 rfl ?_
  refine f1_2 C hm dX1_copyFrom_36 ?_
  refine v_iconst C dX1_copyFrom_39 (v := 0) (by decide) ?_
  refine v_bipush C dX1_copyFrom_40 (v := 16) (by decide) ?_
  refine v_copy C (M := 16) (isM_lt hq1 (by decide)) (isM_lt hm (by decide)) (fun _ => ce_ma hq1 (by decide) (by decide)) (fun _ => ce_ma hm (by decide) (by decide)) ⟨by decide, by decide⟩ (by decide) k181 k183 k182 k7 ⟨Nat.le_of_ble_eq_true rfl, Nat.le_of_ble_eq_true rfl⟩ (Nat.le_of_ble_eq_true rfl) dX1_copyFrom_42 ?_
  obtain ⟨G5, e6, hsh⟩ := bng_e hsh
  refine v_bg e6 ?_
  refine v_aloadn C dX1_copyFrom_45 rfl ?_
  refine f1_3 C hq1 dX1_copyFrom_46 ?_
  refine v_iconst C dX1_copyFrom_49 (v := 0) (by decide) ?_
  refine v_aloadn C dX1_copyFrom_50 rfl ?_
  refine f1_3 C hm dX1_copyFrom_51 ?_
  refine v_iconst C dX1_copyFrom_54 (v := 0) (by decide) ?_
  refine v_bipush C dX1_copyFrom_55 (v := 16) (by decide) ?_
  refine v_copy C (M := 16) (isM_lt hq1 (by decide)) (isM_lt hm (by decide)) (fun _ => ce_ma hq1 (by decide) (by decide)) (fun _ => ce_ma hm (by decide) (by decide)) ⟨by decide, by decide⟩ (by decide) k181 k183 k182 k7 ⟨Nat.le_of_ble_eq_true rfl, Nat.le_of_ble_eq_true rfl⟩ (Nat.le_of_ble_eq_true rfl) dX1_copyFrom_57 ?_
  obtain ⟨G7, e8, hsh⟩ := bng_e hsh
  refine v_bg e8 ?_
  refine v_aloadn C dX1_copyFrom_60 rfl ?_
  refine f1_4 C hq1 dX1_copyFrom_61 ?_
  refine v_iconst C dX1_copyFrom_64 (v := 0) (by decide) ?_
  refine v_aloadn C dX1_copyFrom_65 rfl ?_
  refine f1_4 C hm dX1_copyFrom_66 ?_
  refine v_iconst C dX1_copyFrom_69 (v := 0) (by decide) ?_
  refine v_bipush C dX1_copyFrom_70 (v := 16) (by decide) ?_
  refine v_copy C (M := 16) (isM_lt hq1 (by decide)) (isM_lt hm (by decide)) (fun _ => ce_ma hq1 (by decide) (by decide)) (fun _ => ce_ma hm (by decide) (by decide)) ⟨by decide, by decide⟩ (by decide) k181 k183 k182 k7 ⟨Nat.le_of_ble_eq_true rfl, Nat.le_of_ble_eq_true rfl⟩ (Nat.le_of_ble_eq_true rfl) dX1_copyFrom_72 ?_
  obtain ⟨G9, e10, hsh⟩ := bng_e hsh
  refine v_bg e10 ?_
  refine v_aloadn C dX1_copyFrom_75 rfl ?_
  refine f1_5 C hq1 dX1_copyFrom_76 ?_
  refine v_iconst C dX1_copyFrom_79 (v := 0) (by decide) ?_
  refine v_aloadn C dX1_copyFrom_80 rfl ?_
  refine f1_5 C hm dX1_copyFrom_81 ?_
  refine v_iconst C dX1_copyFrom_84 (v := 0) (by decide) ?_
  refine v_bipush C dX1_copyFrom_85 (v := 16) (by decide) ?_
  refine v_copy C (M := 16) (isM_lt hq1 (by decide)) (isM_lt hm (by decide)) (fun _ => ce_ma hq1 (by decide) (by decide)) (fun _ => ce_ma hm (by decide) (by decide)) ⟨by decide, by decide⟩ (by decide) k181 k183 k182 k7 ⟨Nat.le_of_ble_eq_true rfl, Nat.le_of_ble_eq_true rfl⟩ (Nat.le_of_ble_eq_true rfl) dX1_copyFrom_87 ?_
  obtain ⟨G11, e12, hsh⟩ := bng_e hsh
  refine v_bg e12 ?_
  refine v_aloadn C dX1_copyFrom_90 rfl ?_
  refine f1_6 C hq1 dX1_copyFrom_91 ?_
  refine v_iconst C dX1_copyFrom_94 (v := 0) (by decide) ?_
  refine v_aloadn C dX1_copyFrom_95 rfl ?_
  refine f1_6 C hm dX1_copyFrom_96 ?_
  refine v_iconst C dX1_copyFrom_99 (v := 0) (by decide) ?_
  refine v_bipush C dX1_copyFrom_100 (v := 16) (by decide) ?_
  refine v_copy C (M := 16) (isM_lt hq1 (by decide)) (isM_lt hm (by decide)) (fun _ => ce_ma hq1 (by decide) (by decide)) (fun _ => ce_ma hm (by decide) (by decide)) ⟨by decide, by decide⟩ (by decide) k181 k183 k182 k7 ⟨Nat.le_of_ble_eq_true rfl, Nat.le_of_ble_eq_true rfl⟩ (Nat.le_of_ble_eq_true rfl) dX1_copyFrom_102 ?_
  obtain ⟨G13, e14, hsh⟩ := bng_e hsh
  refine v_bg e14 ?_
  refine v_aloadn C dX1_copyFrom_105 rfl ?_
  refine f1_7 C hq1 dX1_copyFrom_106 ?_
  refine v_iconst C dX1_copyFrom_109 (v := 0) (by decide) ?_
  refine v_aloadn C dX1_copyFrom_110 rfl ?_
  refine f1_7 C hm dX1_copyFrom_111 ?_
  refine v_iconst C dX1_copyFrom_114 (v := 0) (by decide) ?_
  refine v_iconst C dX1_copyFrom_115 (v := 3) (by decide) ?_
  refine v_copy C (M := 3) (isM_lt hq1 (by decide)) (isM_lt hm (by decide)) (fun _ => ce_m8 hq1) (fun _ => ce_m8 hm) ⟨by decide, by decide⟩ (by decide) k181 k183 k182 k7 ⟨Nat.le_of_ble_eq_true rfl, Nat.le_of_ble_eq_true rfl⟩ (Nat.le_of_ble_eq_true rfl) dX1_copyFrom_116 ?_
  obtain ⟨G15, e16, hsh⟩ := bng_e hsh
  refine v_bg e16 ?_
  refine v_aloadn C dX1_copyFrom_119 rfl ?_
  refine v_aloadn C dX1_copyFrom_120 rfl ?_
  refine f1_8 C hq1 dX1_copyFrom_121 ?_
  refine p1_8 C hm dX1_copyFrom_124 ?_
  obtain ⟨G17, e18, hsh⟩ := bng_e hsh
  refine v_bg e18 ?_
  refine v_aloadn C dX1_copyFrom_127 rfl ?_
  refine v_aloadn C dX1_copyFrom_128 rfl ?_
  refine f1_9 C hq1 dX1_copyFrom_129 ?_
  refine p1_9 C hm dX1_copyFrom_132 ?_
  obtain ⟨G19, e20, hsh⟩ := bng_e hsh
  refine v_bg e20 ?_
  refine v_aloadn C dX1_copyFrom_135 rfl ?_
  refine v_aloadn C dX1_copyFrom_136 rfl ?_
  refine f1_10 C hq1 dX1_copyFrom_137 ?_
  refine p1_10 C hm dX1_copyFrom_140 ?_
  obtain ⟨G21, e22, hsh⟩ := bng_e hsh
  refine v_bg e22 ?_
  refine v_aloadn C dX1_copyFrom_143 rfl ?_
  refine v_aloadn C dX1_copyFrom_144 rfl ?_
  refine f1_11 C hq1 dX1_copyFrom_145 ?_
  refine p1_11 C hm dX1_copyFrom_148 ?_
  obtain ⟨G23, e24, hsh⟩ := bng_e hsh
  refine v_bg e24 ?_
  refine v_aloadn C dX1_copyFrom_151 rfl ?_
  refine v_aloadn C dX1_copyFrom_152 rfl ?_
  refine f1_12 C hq1 dX1_copyFrom_153 ?_
  refine p1_12 C hm dX1_copyFrom_156 ?_
  obtain ⟨G25, e26, hsh⟩ := bng_e hsh
  refine v_bg e26 ?_
  refine v_aloadn C dX1_copyFrom_159 rfl ?_
  refine v_aloadn C dX1_copyFrom_160 rfl ?_
  refine f1_13 C hq1 dX1_copyFrom_161 ?_
  refine p1_13 C hm dX1_copyFrom_164 ?_
  obtain ⟨G27, e28, hsh⟩ := bng_e hsh
  refine v_bg e28 ?_
  refine v_aloadn C dX1_copyFrom_167 rfl ?_
  refine v_aloadn C dX1_copyFrom_168 rfl ?_
  refine f1_14 C hq1 dX1_copyFrom_169 ?_
  refine p1_14 C hm dX1_copyFrom_172 ?_
  obtain ⟨G29, e30, hsh⟩ := bng_e hsh
  refine v_bg e30 ?_
  obtain rfl := so_1 hsh
  exact v_vret C dX1_copyFrom_175
theorem yo_X1_copyFrom : yOk yX1_copyFrom 1 := ⟨by decide, by decide, by decide +kernel⟩

def sh_X1_has (k : Nat) (l1 : Int32) (G : gG) : Int32 := (if l1 < (0 : Int32) then (0 : Int32) else (if (16 : Int32) ≤ l1 then (0 : Int32) else (if (sh_X3_holds (G k 8) l1) = (0 : Int32) then (0 : Int32) else (1 : Int32))))
set_option maxRecDepth 100000 in
set_option maxHeartbeats 4000000 in
theorem c_X1_has (l : Launch) (D : va_G) (t : gT) (ad : Nat → Nat) (hI : gI ad) {k : Nat} (hm : isM k) {l1 : Int32} {G : gG} {r0 : Int32} (hsh : sh_X1_has k l1 G = r0) : Mi l D t ad yX1_has cX1_has 2 (some .boolean) (rM 1 21) [.ref (ad k), .int l1] G r0 G := by
  refine m_go hI RX1 rfl (by decide +kernel) ⟨rfl, rfl⟩ (Nat.le_of_ble_eq_true rfl) rfl [some (.ref (ad k)), some (.int l1)] rfl (fun p e s m args below meth c C => ?_)
  unfold sh_X1_has at hsh
  refine v_iloadn C dX1_has_0 rfl ?_
  refine v_if_lt C 25 dX1_has_1 (by decide) (fun hc => ?_) (fun hc => ?_)
  · replace hsh := ite_p hc hsh
    refine v_iconst C dX1_has_25 (v := 0) (by decide) ?_
    subst hsh
    exact v_zret C (Or.inl rfl) dX1_has_26
  · replace hsh := ite_n hc hsh
    refine v_iloadn C dX1_has_4 rfl ?_
    refine v_bipush C dX1_has_5 (v := 16) (by decide) ?_
    refine v_ic_ge C 25 dX1_has_7 (by decide) (fun hc => ?_) (fun hc => ?_)
    · replace hsh := ite_p hc hsh
      refine v_iconst C dX1_has_25 (v := 0) (by decide) ?_
      subst hsh
      exact v_zret C (Or.inl rfl) dX1_has_26
    · replace hsh := ite_n hc hsh
      refine v_aloadn C dX1_has_10 rfl ?_
      refine f1_8 C hm dX1_has_11 ?_
      refine v_iloadn C dX1_has_14 rfl ?_
      refine v_callN (nP := 2) C (c_X3_holds l D t ad hI  (G := G) rfl) k156 (gc_x C).2.2.2.2.1.2.2.2.2.2 k155 k1 yo_X3_holds ⟨Nat.le_of_ble_eq_true rfl, Nat.le_of_ble_eq_true rfl, rfl, rfl, Nat.zero_le _, Nat.zero_le _⟩ rfl rfl (Nat.le_of_ble_eq_true rfl) dX1_has_15 ?_
      refine v_if_eq C 25 dX1_has_18 (by decide) (fun hc => ?_) (fun hc => ?_)
      · replace hsh := ite_p hc hsh
        refine v_iconst C dX1_has_25 (v := 0) (by decide) ?_
        subst hsh
        exact v_zret C (Or.inl rfl) dX1_has_26
      · replace hsh := ite_n hc hsh
        refine v_iconst C dX1_has_21 (v := 1) (by decide) ?_
        refine v_goto C 26 dX1_has_22 (by decide) ?_
        subst hsh
        exact v_zret C (Or.inr rfl) dX1_has_26
theorem nb_X1_has {l1 : Int32} {G : gG} {k : Nat} : nb (sh_X1_has k l1 G) := by
  unfold sh_X1_has
  repeat' split
  all_goals first | exact Or.inl rfl | exact Or.inr rfl | exact nb_X3_holds
theorem yo_X1_has : yOk yX1_has 1 := ⟨by decide, by decide, by decide +kernel⟩

def sh_X1_isOn (k : Nat) (l1 : Int32) (G : gG) : Int32 := (sh_X3_holds (G k 9) l1)
set_option maxRecDepth 100000 in
set_option maxHeartbeats 4000000 in
theorem c_X1_isOn (l : Launch) (D : va_G) (t : gT) (ad : Nat → Nat) (hI : gI ad) {k : Nat} (hm : isM k) {l1 : Int32} {G : gG} {r0 : Int32} (hsh : sh_X1_isOn k l1 G = r0) : Mi l D t ad yX1_isOn cX1_isOn 2 (some .boolean) (rM 1 21) [.ref (ad k), .int l1] G r0 G := by
  refine m_go hI RX1 rfl (by decide +kernel) ⟨rfl, rfl⟩ (Nat.le_of_ble_eq_true rfl) rfl [some (.ref (ad k)), some (.int l1)] rfl (fun p e s m args below meth c C => ?_)
  unfold sh_X1_isOn at hsh
  refine v_aloadn C dX1_isOn_0 rfl ?_
  refine f1_9 C hm dX1_isOn_1 ?_
  refine v_iloadn C dX1_isOn_4 rfl ?_
  refine v_callN (nP := 2) C (c_X3_holds l D t ad hI  (G := G) rfl) k156 (gc_x C).2.2.2.2.1.2.2.2.2.2 k155 k1 yo_X3_holds ⟨Nat.le_of_ble_eq_true rfl, Nat.le_of_ble_eq_true rfl, rfl, rfl, Nat.zero_le _, Nat.zero_le _⟩ rfl rfl (Nat.le_of_ble_eq_true rfl) dX1_isOn_5 ?_
  subst hsh
  exact v_zret C (nb_X3_holds) dX1_isOn_8
theorem nb_X1_isOn {l1 : Int32} {G : gG} {k : Nat} : nb (sh_X1_isOn k l1 G) := by
  unfold sh_X1_isOn
  repeat' split
  all_goals first | exact Or.inl rfl | exact Or.inr rfl | exact nb_X3_holds
theorem yo_X1_isOn : yOk yX1_isOn 1 := ⟨by decide, by decide, by decide +kernel⟩

def sh_X1_isLinked (k : Nat) (l1 : Int32) (l2 : Int32) (G : gG) : Option (Int32) := (if gin l1 16 = true then some (sh_X3_holds (G (k + 4) (l1).toNatClampNeg) l2) else none)
set_option maxRecDepth 100000 in
set_option maxHeartbeats 4000000 in
theorem c_X1_isLinked (l : Launch) (D : va_G) (t : gT) (ad : Nat → Nat) (hI : gI ad) {k : Nat} (hm : isM k) {l1 : Int32} {l2 : Int32} {G : gG} {r0 : Int32} (hsh : sh_X1_isLinked k l1 l2 G = some r0) : Mi l D t ad yX1_isLinked cX1_isLinked 3 (some .boolean) (rM 1 21) [.ref (ad k), .int l1, .int l2] G r0 G := by
  refine m_go hI RX1 rfl (by decide +kernel) ⟨rfl, rfl⟩ (Nat.le_of_ble_eq_true rfl) rfl [some (.ref (ad k)), some (.int l1), some (.int l2)] rfl (fun p e s m args below meth c C => ?_)
  unfold sh_X1_isLinked at hsh
  refine v_aloadn C dX1_isLinked_0 rfl ?_
  refine f1_3 C hm dX1_isLinked_1 ?_
  refine v_iloadn C dX1_isLinked_4 rfl ?_
  obtain ⟨h1, hsh⟩ := g_if hsh
  refine v_ld C (k := (k + 4)) (isM_lt hm (by decide)) (ce_ma hm (by decide) (by decide)) (gin_in h1) dX1_isLinked_5 ?_
  refine v_iloadn C dX1_isLinked_6 rfl ?_
  refine v_callN (nP := 2) C (c_X3_holds l D t ad hI  (G := G) rfl) k156 (gc_x C).2.2.2.2.1.2.2.2.2.2 k155 k1 yo_X3_holds ⟨Nat.le_of_ble_eq_true rfl, Nat.le_of_ble_eq_true rfl, rfl, rfl, Nat.zero_le _, Nat.zero_le _⟩ rfl rfl (Nat.le_of_ble_eq_true rfl) dX1_isLinked_7 ?_
  obtain rfl := so_1 hsh
  exact v_zret C (nb_X3_holds) dX1_isLinked_10
theorem yo_X1_isLinked : yOk yX1_isLinked 2 := ⟨by decide, by decide, by decide +kernel⟩

def sh_X1_couldLink (k : Nat) (l1 : Int32) (l2 : Int32) (G : gG) : Option (Int32) := (if (sh_X1_isOn k l1 G) = (0 : Int32) then some (0 : Int32) else (if (sh_X1_isOn k l2 G) = (0 : Int32) then some (0 : Int32) else (obp (sh_X1_isLinked k l1 l2 G) fun r2 => (if r2 = (0 : Int32) then some (1 : Int32) else some (0 : Int32)))))
set_option maxRecDepth 100000 in
set_option maxHeartbeats 4000000 in
theorem c_X1_couldLink (l : Launch) (D : va_G) (t : gT) (ad : Nat → Nat) (hI : gI ad) {k : Nat} (hm : isM k) {l1 : Int32} {l2 : Int32} {G : gG} {r0 : Int32} (hsh : sh_X1_couldLink k l1 l2 G = some r0) : Mi l D t ad yX1_couldLink cX1_couldLink 3 (some .boolean) (rM 2 43) [.ref (ad k), .int l1, .int l2] G r0 G := by
  refine m_go hI RX1 rfl (by decide +kernel) ⟨rfl, rfl⟩ (Nat.le_of_ble_eq_true rfl) rfl [some (.ref (ad k)), some (.int l1), some (.int l2)] rfl (fun p e s m args below meth c C => ?_)
  unfold sh_X1_couldLink at hsh
  refine v_aloadn C dX1_couldLink_0 rfl ?_
  refine v_iloadn C dX1_couldLink_1 rfl ?_
  refine v_callI (nP := 1) (k := k) C (isM_lt (f := 0) hm (by decide)) (ce_m hm) rfl (c_X1_isOn l D t ad hI hm rfl) k168 k165 k166 k167 k2 yo_X1_isOn ⟨Nat.le_of_ble_eq_true rfl, Nat.le_of_ble_eq_true rfl, rfl, rfl, Nat.zero_le _, Nat.zero_le _⟩ rfl rfl (Nat.le_of_ble_eq_true rfl) dX1_couldLink_2 ?_
  refine v_if_eq C 29 dX1_couldLink_5 (by decide) (fun hc => ?_) (fun hc => ?_)
  · replace hsh := ite_p hc hsh
    refine v_iconst C dX1_couldLink_29 (v := 0) (by decide) ?_
    obtain rfl := so_1 hsh
    exact v_zret C (Or.inl rfl) dX1_couldLink_30
  · replace hsh := ite_n hc hsh
    refine v_aloadn C dX1_couldLink_8 rfl ?_
    refine v_iloadn C dX1_couldLink_9 rfl ?_
    refine v_callI (nP := 1) (k := k) C (isM_lt (f := 0) hm (by decide)) (ce_m hm) rfl (c_X1_isOn l D t ad hI hm rfl) k168 k165 k166 k167 k2 yo_X1_isOn ⟨Nat.le_of_ble_eq_true rfl, Nat.le_of_ble_eq_true rfl, rfl, rfl, Nat.zero_le _, Nat.zero_le _⟩ rfl rfl (Nat.le_of_ble_eq_true rfl) dX1_couldLink_10 ?_
    refine v_if_eq C 29 dX1_couldLink_13 (by decide) (fun hc => ?_) (fun hc => ?_)
    · replace hsh := ite_p hc hsh
      refine v_iconst C dX1_couldLink_29 (v := 0) (by decide) ?_
      obtain rfl := so_1 hsh
      exact v_zret C (Or.inl rfl) dX1_couldLink_30
    · replace hsh := ite_n hc hsh
      refine v_aloadn C dX1_couldLink_16 rfl ?_
      refine v_iloadn C dX1_couldLink_17 rfl ?_
      refine v_iloadn C dX1_couldLink_18 rfl ?_
      obtain ⟨r2, e1, hsh⟩ := obp_e hsh
      refine v_callI (nP := 2) (k := k) C (isM_lt (f := 0) hm (by decide)) (ce_m hm) rfl (c_X1_isLinked l D t ad hI hm e1) k172 k169 k170 k171 k2 yo_X1_isLinked ⟨Nat.le_of_ble_eq_true rfl, Nat.le_of_ble_eq_true rfl, rfl, rfl, Nat.zero_le _, Nat.zero_le _⟩ rfl rfl (Nat.le_of_ble_eq_true rfl) dX1_couldLink_19 ?_
      refine v_if_ne C 29 dX1_couldLink_22 (by decide) (fun hc => ?_) (fun hc => ?_)
      · replace hsh := ite_n hc hsh
        refine v_iconst C dX1_couldLink_29 (v := 0) (by decide) ?_
        obtain rfl := so_1 hsh
        exact v_zret C (Or.inl rfl) dX1_couldLink_30
      · replace hsh := ite_p hc hsh
        refine v_iconst C dX1_couldLink_25 (v := 1) (by decide) ?_
        refine v_goto C 30 dX1_couldLink_26 (by decide) ?_
        obtain rfl := so_1 hsh
        exact v_zret C (Or.inr rfl) dX1_couldLink_30
theorem yo_X1_couldLink : yOk yX1_couldLink 2 := ⟨by decide, by decide, by decide +kernel⟩

def sh_X1_isWholePhase (k : Nat) (l1 : Int32) (G : gG) : Option (Int32) := (if l1 < (0 : Int32) then some (0 : Int32) else (if (G (k + 8) ((0 : Int32)).toNatClampNeg) ≤ l1 then some (0 : Int32) else some (1 : Int32)))
set_option maxRecDepth 100000 in
set_option maxHeartbeats 4000000 in
theorem c_X1_isWholePhase (l : Launch) (D : va_G) (t : gT) (ad : Nat → Nat) (hI : gI ad) {k : Nat} (hm : isM k) {l1 : Int32} {G : gG} {r0 : Int32} (hsh : sh_X1_isWholePhase k l1 G = some r0) : Mi l D t ad yX1_isWholePhase cX1_isWholePhase 2 (some .boolean) (rM 0 0) [.ref (ad k), .int l1] G r0 G := by
  refine m_go hI RX1 rfl (by decide +kernel) ⟨rfl, rfl⟩ (Nat.le_of_ble_eq_true rfl) rfl [some (.ref (ad k)), some (.int l1)] rfl (fun p e s m args below meth c C => ?_)
  unfold sh_X1_isWholePhase at hsh
  refine v_iloadn C dX1_isWholePhase_0 rfl ?_
  refine v_if_lt C 18 dX1_isWholePhase_1 (by decide) (fun hc => ?_) (fun hc => ?_)
  · replace hsh := ite_p hc hsh
    refine v_iconst C dX1_isWholePhase_18 (v := 0) (by decide) ?_
    obtain rfl := so_1 hsh
    exact v_zret C (Or.inl rfl) dX1_isWholePhase_19
  · replace hsh := ite_n hc hsh
    refine v_iloadn C dX1_isWholePhase_4 rfl ?_
    refine v_aloadn C dX1_isWholePhase_5 rfl ?_
    refine f1_7 C hm dX1_isWholePhase_6 ?_
    refine v_iconst C dX1_isWholePhase_9 (v := 0) (by decide) ?_
    refine v_ld C (k := (k + 8)) (isM_lt hm (by decide)) (ce_m8 hm) (gin_in (by decide)) dX1_isWholePhase_10 ?_
    refine v_ic_ge C 18 dX1_isWholePhase_11 (by decide) (fun hc => ?_) (fun hc => ?_)
    · replace hsh := ite_p hc hsh
      refine v_iconst C dX1_isWholePhase_18 (v := 0) (by decide) ?_
      obtain rfl := so_1 hsh
      exact v_zret C (Or.inl rfl) dX1_isWholePhase_19
    · replace hsh := ite_n hc hsh
      refine v_iconst C dX1_isWholePhase_14 (v := 1) (by decide) ?_
      refine v_goto C 19 dX1_isWholePhase_15 (by decide) ?_
      obtain rfl := so_1 hsh
      exact v_zret C (Or.inr rfl) dX1_isWholePhase_19
theorem yo_X1_isWholePhase : yOk yX1_isWholePhase 1 := ⟨by decide, by decide, by decide +kernel⟩

def sh_X1_setting (k : Nat) (l1 : Int32) (G : gG) : Option (Int32) := (if gin l1 3 = true then some (G (k + 8) (l1).toNatClampNeg) else none)
set_option maxRecDepth 100000 in
set_option maxHeartbeats 4000000 in
theorem c_X1_setting (l : Launch) (D : va_G) (t : gT) (ad : Nat → Nat) (hI : gI ad) {k : Nat} (hm : isM k) {l1 : Int32} {G : gG} {r0 : Int32} (hsh : sh_X1_setting k l1 G = some r0) : Mi l D t ad yX1_setting cX1_setting 2 (some .int) (rM 0 0) [.ref (ad k), .int l1] G r0 G := by
  refine m_go hI RX1 rfl (by decide +kernel) ⟨rfl, rfl⟩ (Nat.le_of_ble_eq_true rfl) rfl [some (.ref (ad k)), some (.int l1)] rfl (fun p e s m args below meth c C => ?_)
  unfold sh_X1_setting at hsh
  refine v_aloadn C dX1_setting_0 rfl ?_
  refine f1_7 C hm dX1_setting_1 ?_
  refine v_iloadn C dX1_setting_4 rfl ?_
  obtain ⟨h1, hsh⟩ := g_if hsh
  refine v_ld C (k := (k + 8)) (isM_lt hm (by decide)) (ce_m8 hm) (gin_in h1) dX1_setting_5 ?_
  obtain rfl := so_1 hsh
  exact v_iret C dX1_setting_6
theorem yo_X1_setting : yOk yX1_setting 1 := ⟨by decide, by decide, by decide +kernel⟩

def sh_X1_tickNumber (k : Nat) (G : gG) : Int32 := (G k 10)
set_option maxRecDepth 100000 in
set_option maxHeartbeats 4000000 in
theorem c_X1_tickNumber (l : Launch) (D : va_G) (t : gT) (ad : Nat → Nat) (hI : gI ad) {k : Nat} (hm : isM k) {G : gG} {r0 : Int32} (hsh : sh_X1_tickNumber k G = r0) : Mi l D t ad yX1_tickNumber cX1_tickNumber 1 (some .int) (rM 0 0) [.ref (ad k)] G r0 G := by
  refine m_go hI RX1 rfl (by decide +kernel) ⟨rfl, rfl⟩ (Nat.le_of_ble_eq_true rfl) rfl [some (.ref (ad k))] rfl (fun p e s m args below meth c C => ?_)
  unfold sh_X1_tickNumber at hsh
  refine v_aloadn C dX1_tickNumber_0 rfl ?_
  refine f1_10 C hm dX1_tickNumber_1 ?_
  subst hsh
  exact v_iret C dX1_tickNumber_4
theorem yo_X1_tickNumber : yOk yX1_tickNumber 0 := ⟨by decide, by decide, by decide +kernel⟩

def sh_X1_allBlinks (k : Nat) (G : gG) : Int32 := (G k 11)
set_option maxRecDepth 100000 in
set_option maxHeartbeats 4000000 in
theorem c_X1_allBlinks (l : Launch) (D : va_G) (t : gT) (ad : Nat → Nat) (hI : gI ad) {k : Nat} (hm : isM k) {G : gG} {r0 : Int32} (hsh : sh_X1_allBlinks k G = r0) : Mi l D t ad yX1_allBlinks cX1_allBlinks 1 (some .int) (rM 0 0) [.ref (ad k)] G r0 G := by
  refine m_go hI RX1 rfl (by decide +kernel) ⟨rfl, rfl⟩ (Nat.le_of_ble_eq_true rfl) rfl [some (.ref (ad k))] rfl (fun p e s m args below meth c C => ?_)
  unfold sh_X1_allBlinks at hsh
  refine v_aloadn C dX1_allBlinks_0 rfl ?_
  refine f1_11 C hm dX1_allBlinks_1 ?_
  subst hsh
  exact v_iret C dX1_allBlinks_4
theorem yo_X1_allBlinks : yOk yX1_allBlinks 0 := ⟨by decide, by decide, by decide +kernel⟩

def sh_X1_lamps (k : Nat) (G : gG) : Int32 := (sh_J6_bitCount_0f7a4 (G k 8))
set_option maxRecDepth 100000 in
set_option maxHeartbeats 4000000 in
theorem c_X1_lamps (l : Launch) (D : va_G) (t : gT) (ad : Nat → Nat) (hI : gI ad) {k : Nat} (hm : isM k) {G : gG} {r0 : Int32} (hsh : sh_X1_lamps k G = r0) : Mi l D t ad yX1_lamps cX1_lamps 1 (some .int) (rM 1 20) [.ref (ad k)] G r0 G := by
  refine m_go hI RX1 rfl (by decide +kernel) ⟨rfl, rfl⟩ (Nat.le_of_ble_eq_true rfl) rfl [some (.ref (ad k))] rfl (fun p e s m args below meth c C => ?_)
  unfold sh_X1_lamps at hsh
  refine v_aloadn C dX1_lamps_0 rfl ?_
  refine f1_8 C hm dX1_lamps_1 ?_
  refine v_callS (nP := 1) C (c_J6_bitCount_0f7a4 l D t ad hI  (G := G) rfl) k150 k148 k149 k6 yo_J6_bitCount_0f7a4 ⟨Nat.le_of_ble_eq_true rfl, Nat.le_of_ble_eq_true rfl, rfl, rfl, Nat.zero_le _, Nat.zero_le _⟩ rfl rfl (Nat.le_of_ble_eq_true rfl) dX1_lamps_4 ?_
  subst hsh
  exact v_iret C dX1_lamps_7
theorem yo_X1_lamps : yOk yX1_lamps 0 := ⟨by decide, by decide, by decide +kernel⟩

def sh_X1_lampsOn (k : Nat) (G : gG) : Int32 := (sh_J6_bitCount_0f7a4 (G k 9))
set_option maxRecDepth 100000 in
set_option maxHeartbeats 4000000 in
theorem c_X1_lampsOn (l : Launch) (D : va_G) (t : gT) (ad : Nat → Nat) (hI : gI ad) {k : Nat} (hm : isM k) {G : gG} {r0 : Int32} (hsh : sh_X1_lampsOn k G = r0) : Mi l D t ad yX1_lampsOn cX1_lampsOn 1 (some .int) (rM 1 20) [.ref (ad k)] G r0 G := by
  refine m_go hI RX1 rfl (by decide +kernel) ⟨rfl, rfl⟩ (Nat.le_of_ble_eq_true rfl) rfl [some (.ref (ad k))] rfl (fun p e s m args below meth c C => ?_)
  unfold sh_X1_lampsOn at hsh
  refine v_aloadn C dX1_lampsOn_0 rfl ?_
  refine f1_9 C hm dX1_lampsOn_1 ?_
  refine v_callS (nP := 1) C (c_J6_bitCount_0f7a4 l D t ad hI  (G := G) rfl) k150 k148 k149 k6 yo_J6_bitCount_0f7a4 ⟨Nat.le_of_ble_eq_true rfl, Nat.le_of_ble_eq_true rfl, rfl, rfl, Nat.zero_le _, Nat.zero_le _⟩ rfl rfl (Nat.le_of_ble_eq_true rfl) dX1_lampsOn_4 ?_
  subst hsh
  exact v_iret C dX1_lampsOn_7
theorem yo_X1_lampsOn : yOk yX1_lampsOn 0 := ⟨by decide, by decide, by decide +kernel⟩

def sh_X1_links_4 (k : Nat) (G : gG) (kt28 : Int32 → Option (Int32)) : Nat → Int32 → Int32 → Option (Int32)
  | 0, _, _ => none
  | n + 1, l1, l2 => (if (16 : Int32) ≤ l2 then kt28 l1 else (if gin l2 16 = true then (bni (l1 + (sh_J6_bitCount_0f7a4 (G (k + 4) (l2).toNatClampNeg))) fun z2 => sh_X1_links_4 k G kt28 n z2 (l2 + 1)) else none))
def sh_X1_links (k : Nat) (G : gG) : Option (Int32) := (sh_X1_links_4 k G (fun l1 => some (l1 / (2 : Int32))) FU (0 : Int32) (0 : Int32))
set_option maxRecDepth 100000 in
set_option maxHeartbeats 4000000 in
theorem lp_X1_links_4 {p : Program} {l : Launch} {e : Env} {s : State} {m : MethodId} {args : Array Value} {below : List Frame} {meth : Method} {c : Code} {D : va_G} {t : gT} {ad : Nat → Nat} (C : gC p s m args meth c cX1_links RX1 3 (some .int) (isW ad) D t ad) (hI : gI ad) {k : Nat} (hm : isM k) {G : gG} {r0 : Int32} {kt28 : Int32 → Option (Int32)} (hk28 : ∀ (l1 : Int32) , kt28 l1 = some r0 → V p l e (rM 1 20) s m args below meth c (isW ad) D t ad 0 0 3 (Qi below D t ad args s r0 G) G 28 [none, some (.int l1), none] []) : ∀ (n : Nat) (l1 : Int32) (l2 : Int32) , sh_X1_links_4 k G kt28 n l1 l2 = some r0 → V p l e (rM 1 20) s m args below meth c (isW ad) D t ad 0 0 3 (Qi below D t ad args s r0 G) G 4 [some (.ref (ad k)), some (.int l1), some (.int l2)] [] := by
  intro n
  induction n with
  | zero => intro l1 l2 hsh; rw [sh_X1_links_4.eq_1] at hsh; cases hsh
  | succ n ih =>
    intro l1 l2 hsh
    rw [sh_X1_links_4.eq_2] at hsh
    refine v_iloadn C dX1_links_4 rfl ?_
    refine v_bipush C dX1_links_5 (v := 16) (by decide) ?_
    refine v_ic_ge C 28 dX1_links_7 (by decide) (fun hc => ?_) (fun hc => ?_)
    · replace hsh := ite_p hc hsh
      exact v_wk (hk28 _ hsh) (wk_of (And.intro rfl trivial))
    · replace hsh := ite_n hc hsh
      refine v_iloadn C dX1_links_10 rfl ?_
      refine v_aloadn C dX1_links_11 rfl ?_
      refine f1_3 C hm dX1_links_12 ?_
      refine v_iloadn C dX1_links_15 rfl ?_
      obtain ⟨h1, hsh⟩ := g_if hsh
      refine v_ld C (k := (k + 4)) (isM_lt hm (by decide)) (ce_ma hm (by decide) (by decide)) (gin_in h1) dX1_links_16 ?_
      refine v_callS (nP := 1) C (c_J6_bitCount_0f7a4 l D t ad hI  (G := G) rfl) k150 k148 k149 k6 yo_J6_bitCount_0f7a4 ⟨Nat.le_of_ble_eq_true rfl, Nat.le_of_ble_eq_true rfl, rfl, rfl, Nat.zero_le _, Nat.zero_le _⟩ rfl rfl (Nat.le_of_ble_eq_true rfl) dX1_links_17 ?_
      refine v_iadd C dX1_links_20 ?_
      obtain ⟨z2, e3, hsh⟩ := bni_e hsh
      refine v_bi e3 ?_
      refine v_istoren C dX1_links_21 (by decide) ?_
      refine v_iinc C dX1_links_22 rfl (v := 1) (by decide) (by decide) ?_
      refine v_goto C 4 dX1_links_25 (by decide) ?_
      exact v_wk (ih _ _ hsh) (wk_of (And.intro rfl (And.intro rfl (And.intro rfl trivial))))
set_option maxRecDepth 100000 in
set_option maxHeartbeats 4000000 in
theorem c_X1_links (l : Launch) (D : va_G) (t : gT) (ad : Nat → Nat) (hI : gI ad) {k : Nat} (hm : isM k) {G : gG} {r0 : Int32} (hsh : sh_X1_links k G = some r0) : Mi l D t ad yX1_links cX1_links 3 (some .int) (rM 1 20) [.ref (ad k)] G r0 G := by
  refine m_go hI RX1 rfl (by decide +kernel) ⟨rfl, rfl⟩ (Nat.le_of_ble_eq_true rfl) rfl [some (.ref (ad k)), none, none] rfl (fun p e s m args below meth c C => ?_)
  unfold sh_X1_links at hsh
  refine v_iconst C dX1_links_0 (v := 0) (by decide) ?_
  refine v_istoren C dX1_links_1 (by decide) ?_
  refine v_iconst C dX1_links_2 (v := 0) (by decide) ?_
  refine v_istoren C dX1_links_3 (by decide) ?_
  refine v_wk (lp_X1_links_4 C hI hm (fun l1 hsh => ?_) FU _ _ hsh) (wk_of (And.intro rfl (And.intro rfl (And.intro rfl trivial))))
  refine v_iloadn C dX1_links_28 rfl ?_
  refine v_iconst C dX1_links_29 (v := 2) (by decide) ?_
  refine v_idiv C dX1_links_30 (by decide) ?_
  obtain rfl := so_1 hsh
  exact v_iret C dX1_links_31
theorem yo_X1_links : yOk yX1_links 0 := ⟨by decide, by decide, by decide +kernel⟩

def sh_X1_freeNumber_2 (k : Nat) (G : gG) (kt27 : Option (Int32)) : Nat → Int32 → Option (Int32)
  | 0, _ => none
  | n + 1, l1 => (if (16 : Int32) ≤ l1 then kt27 else (if (sh_X3_holds (G k 8) l1) = (0 : Int32) then some l1 else sh_X1_freeNumber_2 k G kt27 n (l1 + 1)))
def sh_X1_freeNumber (k : Nat) (G : gG) : Option (Int32) := (sh_X1_freeNumber_2 k G (some (-1 : Int32)) FU (0 : Int32))
set_option maxRecDepth 100000 in
set_option maxHeartbeats 4000000 in
theorem lp_X1_freeNumber_2 {p : Program} {l : Launch} {e : Env} {s : State} {m : MethodId} {args : Array Value} {below : List Frame} {meth : Method} {c : Code} {D : va_G} {t : gT} {ad : Nat → Nat} (C : gC p s m args meth c cX1_freeNumber RX1 2 (some .int) (isW ad) D t ad) (hI : gI ad) {k : Nat} (hm : isM k) {G : gG} {r0 : Int32} {kt27 : Option (Int32)} (hk27 : kt27 = some r0 → V p l e (rM 1 21) s m args below meth c (isW ad) D t ad 0 0 2 (Qi below D t ad args s r0 G) G 27 [none, none] []) : ∀ (n : Nat) (l1 : Int32) , sh_X1_freeNumber_2 k G kt27 n l1 = some r0 → V p l e (rM 1 21) s m args below meth c (isW ad) D t ad 0 0 2 (Qi below D t ad args s r0 G) G 2 [some (.ref (ad k)), some (.int l1)] [] := by
  intro n
  induction n with
  | zero => intro l1 hsh; rw [sh_X1_freeNumber_2.eq_1] at hsh; cases hsh
  | succ n ih =>
    intro l1 hsh
    rw [sh_X1_freeNumber_2.eq_2] at hsh
    refine v_iloadn C dX1_freeNumber_2 rfl ?_
    refine v_bipush C dX1_freeNumber_3 (v := 16) (by decide) ?_
    refine v_ic_ge C 27 dX1_freeNumber_5 (by decide) (fun hc => ?_) (fun hc => ?_)
    · replace hsh := ite_p hc hsh
      exact v_wk (hk27  hsh) (wk_of trivial)
    · replace hsh := ite_n hc hsh
      refine v_aloadn C dX1_freeNumber_8 rfl ?_
      refine f1_8 C hm dX1_freeNumber_9 ?_
      refine v_iloadn C dX1_freeNumber_12 rfl ?_
      refine v_callN (nP := 2) C (c_X3_holds l D t ad hI  (G := G) rfl) k156 (gc_x C).2.2.2.2.1.2.2.2.2.2 k155 k1 yo_X3_holds ⟨Nat.le_of_ble_eq_true rfl, Nat.le_of_ble_eq_true rfl, rfl, rfl, Nat.zero_le _, Nat.zero_le _⟩ rfl rfl (Nat.le_of_ble_eq_true rfl) dX1_freeNumber_13 ?_
      refine v_if_ne C 21 dX1_freeNumber_16 (by decide) (fun hc => ?_) (fun hc => ?_)
      · replace hsh := ite_n hc hsh
        refine v_iinc C dX1_freeNumber_21 rfl (v := 1) (by decide) (by decide) ?_
        refine v_goto C 2 dX1_freeNumber_24 (by decide) ?_
        exact v_wk (ih _ hsh) (wk_of (And.intro rfl (And.intro rfl trivial)))
      · replace hsh := ite_p hc hsh
        refine v_iloadn C dX1_freeNumber_19 rfl ?_
        obtain rfl := so_1 hsh
        exact v_iret C dX1_freeNumber_20
set_option maxRecDepth 100000 in
set_option maxHeartbeats 4000000 in
theorem c_X1_freeNumber (l : Launch) (D : va_G) (t : gT) (ad : Nat → Nat) (hI : gI ad) {k : Nat} (hm : isM k) {G : gG} {r0 : Int32} (hsh : sh_X1_freeNumber k G = some r0) : Mi l D t ad yX1_freeNumber cX1_freeNumber 2 (some .int) (rM 1 21) [.ref (ad k)] G r0 G := by
  refine m_go hI RX1 rfl (by decide +kernel) ⟨rfl, rfl⟩ (Nat.le_of_ble_eq_true rfl) rfl [some (.ref (ad k)), none] rfl (fun p e s m args below meth c C => ?_)
  unfold sh_X1_freeNumber at hsh
  refine v_iconst C dX1_freeNumber_0 (v := 0) (by decide) ?_
  refine v_istoren C dX1_freeNumber_1 (by decide) ?_
  refine v_wk (lp_X1_freeNumber_2 C hI hm (fun hsh => ?_) FU _ hsh) (wk_of (And.intro rfl (And.intro rfl trivial)))
  refine v_iconst C dX1_freeNumber_27 (v := -1) (by decide) ?_
  obtain rfl := so_1 hsh
  exact v_iret C dX1_freeNumber_28
theorem yo_X1_freeNumber : yOk yX1_freeNumber 0 := ⟨by decide, by decide, by decide +kernel⟩

def sh_X1_place (k : Nat) (l1 : Int32) (l2 : Int32) (l3 : Int32) (G : gG) : Option (gG) := (bng (gu G k 8 ((G k 8) ||| ((1 : Int32) <<< (l1 &&& 31)))) fun G1 => (bng (gu G1 k 9 ((G1 k 9) ||| ((1 : Int32) <<< (l1 &&& 31)))) fun G3 => (if gin l1 16 = true then (bng (gu G3 (k + 1) (l1).toNatClampNeg (l2 * (100 : Int32))) fun G6 => (bng (gu G6 (k + 2) (l1).toNatClampNeg l3) fun G8 => (bng (gu G8 (k + 3) (l1).toNatClampNeg (0 : Int32)) fun G10 => (bng (gu G10 (k + 4) (l1).toNatClampNeg (0 : Int32)) fun G12 => (bng (gu G12 (k + 5) (l1).toNatClampNeg (0 : Int32)) fun G14 => (bng (gu G14 (k + 6) (l1).toNatClampNeg (0 : Int32)) fun G16 => (bng (gu G16 (k + 7) (l1).toNatClampNeg (0 : Int32)) fun G18 => some G18))))))) else none)))
set_option maxRecDepth 100000 in
set_option maxHeartbeats 4000000 in
theorem c_X1_place (l : Launch) (D : va_G) (t : gT) (ad : Nat → Nat) (hI : gI ad) {k : Nat} (hm : isM k) {l1 : Int32} {l2 : Int32} {l3 : Int32} {G : gG} {G0 : gG} (hsh : sh_X1_place k l1 l2 l3 G = some G0) : Mv l D t ad yX1_place cX1_place 4 (rM 0 0) [.ref (ad k), .int l1, .int l2, .int l3] G G0 := by
  refine m_go hI RX1 rfl (by decide +kernel) ⟨rfl, rfl⟩ (Nat.le_of_ble_eq_true rfl) rfl [some (.ref (ad k)), some (.int l1), some (.int l2), some (.int l3)] rfl (fun p e s m args below meth c C => ?_)
  unfold sh_X1_place at hsh
  refine v_aloadn C dX1_place_0 rfl ?_
  refine v_dup C dX1_place_1 rfl ?_
  refine f1_8 C hm dX1_place_2 ?_
  refine v_iconst C dX1_place_5 (v := 1) (by decide) ?_
  refine v_iloadn C dX1_place_6 rfl ?_
  refine v_ishl C dX1_place_7 ?_
  refine v_ior C dX1_place_8 ?_
  refine p1_8 C hm dX1_place_9 ?_
  obtain ⟨G1, e2, hsh⟩ := bng_e hsh
  refine v_bg e2 ?_
  refine v_aloadn C dX1_place_12 rfl ?_
  refine v_dup C dX1_place_13 rfl ?_
  refine f1_9 C hm dX1_place_14 ?_
  refine v_iconst C dX1_place_17 (v := 1) (by decide) ?_
  refine v_iloadn C dX1_place_18 rfl ?_
  refine v_ishl C dX1_place_19 ?_
  refine v_ior C dX1_place_20 ?_
  refine p1_9 C hm dX1_place_21 ?_
  obtain ⟨G3, e4, hsh⟩ := bng_e hsh
  refine v_bg e4 ?_
  refine v_aloadn C dX1_place_24 rfl ?_
  refine f1_0 C hm dX1_place_25 ?_
  refine v_iloadn C dX1_place_28 rfl ?_
  refine v_iloadn C dX1_place_29 rfl ?_
  refine v_bipush C dX1_place_30 (v := 100) (by decide) ?_
  refine v_imul C dX1_place_32 ?_
  obtain ⟨h5, hsh⟩ := g_if hsh
  refine v_st C (k := (k + 1)) (isM_lt hm (by decide)) (fun _ => ce_ma hm (by decide) (by decide)) (gin_in h5) dX1_place_33 ?_
  obtain ⟨G6, e7, hsh⟩ := bng_e hsh
  refine v_bg e7 ?_
  refine v_aloadn C dX1_place_34 rfl ?_
  refine f1_1 C hm dX1_place_35 ?_
  refine v_iloadn C dX1_place_38 rfl ?_
  refine v_iloadn C dX1_place_39 rfl ?_
  refine v_st C (k := (k + 2)) (isM_lt hm (by decide)) (fun _ => ce_ma hm (by decide) (by decide)) (gin_in h5) dX1_place_40 ?_
  obtain ⟨G8, e9, hsh⟩ := bng_e hsh
  refine v_bg e9 ?_
  refine v_aloadn C dX1_place_41 rfl ?_
  refine f1_2 C hm dX1_place_42 ?_
  refine v_iloadn C dX1_place_45 rfl ?_
  refine v_iconst C dX1_place_46 (v := 0) (by decide) ?_
  refine v_st C (k := (k + 3)) (isM_lt hm (by decide)) (fun _ => ce_ma hm (by decide) (by decide)) (gin_in h5) dX1_place_47 ?_
  obtain ⟨G10, e11, hsh⟩ := bng_e hsh
  refine v_bg e11 ?_
  refine v_aloadn C dX1_place_48 rfl ?_
  refine f1_3 C hm dX1_place_49 ?_
  refine v_iloadn C dX1_place_52 rfl ?_
  refine v_iconst C dX1_place_53 (v := 0) (by decide) ?_
  refine v_st C (k := (k + 4)) (isM_lt hm (by decide)) (fun _ => ce_ma hm (by decide) (by decide)) (gin_in h5) dX1_place_54 ?_
  obtain ⟨G12, e13, hsh⟩ := bng_e hsh
  refine v_bg e13 ?_
  refine v_aloadn C dX1_place_55 rfl ?_
  refine f1_4 C hm dX1_place_56 ?_
  refine v_iloadn C dX1_place_59 rfl ?_
  refine v_iconst C dX1_place_60 (v := 0) (by decide) ?_
  refine v_st C (k := (k + 5)) (isM_lt hm (by decide)) (fun _ => ce_ma hm (by decide) (by decide)) (gin_in h5) dX1_place_61 ?_
  obtain ⟨G14, e15, hsh⟩ := bng_e hsh
  refine v_bg e15 ?_
  refine v_aloadn C dX1_place_62 rfl ?_
  refine f1_5 C hm dX1_place_63 ?_
  refine v_iloadn C dX1_place_66 rfl ?_
  refine v_iconst C dX1_place_67 (v := 0) (by decide) ?_
  refine v_st C (k := (k + 6)) (isM_lt hm (by decide)) (fun _ => ce_ma hm (by decide) (by decide)) (gin_in h5) dX1_place_68 ?_
  obtain ⟨G16, e17, hsh⟩ := bng_e hsh
  refine v_bg e17 ?_
  refine v_aloadn C dX1_place_69 rfl ?_
  refine f1_6 C hm dX1_place_70 ?_
  refine v_iloadn C dX1_place_73 rfl ?_
  refine v_iconst C dX1_place_74 (v := 0) (by decide) ?_
  refine v_st C (k := (k + 7)) (isM_lt hm (by decide)) (fun _ => ce_ma hm (by decide) (by decide)) (gin_in h5) dX1_place_75 ?_
  obtain ⟨G18, e19, hsh⟩ := bng_e hsh
  refine v_bg e19 ?_
  obtain rfl := so_1 hsh
  exact v_vret C dX1_place_76
theorem yo_X1_place : yOk yX1_place 3 := ⟨by decide, by decide, by decide +kernel⟩

def sh_X1_remove_46 (k : Nat) (kt70 : Int32 → gG → Option (Int32 × gG)) : Nat → Int32 → Int32 → Int32 → gG → Option (Int32 × gG)
  | 0, _, _, _, _ => none
  | n + 1, l2, l3, l4, G => (if (16 : Int32) ≤ l4 then kt70 l2 G else (if gin l4 16 = true then (bng (gu G (k + 4) (l4).toNatClampNeg ((G (k + 4) (l4).toNatClampNeg) &&& l3)) fun G13 => sh_X1_remove_46 k kt70 n l2 l3 (l4 + 1) G13) else none))
def sh_X1_remove (k : Nat) (l1 : Int32) (G : gG) : Option (Int32 × gG) := (if gin l1 16 = true then (bni (sh_J6_bitCount_0f7a4 (G (k + 4) (l1).toNatClampNeg)) fun z2 => (bni (((1 : Int32) <<< (l1 &&& 31)) ^^^ (-1 : Int32)) fun z4 => (bng (gu G k 8 ((G k 8) &&& z4)) fun G6 => (bng (gu G6 k 9 ((G6 k 9) &&& z4)) fun G8 => (bng (gu G8 (k + 4) (l1).toNatClampNeg (0 : Int32)) fun G10 => (sh_X1_remove_46 k (fun l2 G => some (l2, G)) FU z2 z4 (0 : Int32) G10)))))) else none)
set_option maxRecDepth 100000 in
set_option maxHeartbeats 4000000 in
theorem lp_X1_remove_46 {p : Program} {l : Launch} {e : Env} {s : State} {m : MethodId} {args : Array Value} {below : List Frame} {meth : Method} {c : Code} {D : va_G} {t : gT} {ad : Nat → Nat} (C : gC p s m args meth c cX1_remove RX1 5 (some .int) (isW ad) D t ad) (hI : gI ad) {k : Nat} (hm : isM k) {r0 : Int32} {G0 : gG} {kt70 : Int32 → gG → Option (Int32 × gG)} (hk70 : ∀ (l2 : Int32) (G : gG) , kt70 l2 G = some (r0, G0) → V p l e (rM 1 20) s m args below meth c (isW ad) D t ad 0 0 5 (Qi below D t ad args s r0 G0) G 70 [none, none, some (.int l2), none, none] []) : ∀ (n : Nat) (l2 : Int32) (l3 : Int32) (l4 : Int32) (G : gG) , sh_X1_remove_46 k kt70 n l2 l3 l4 G = some (r0, G0) → V p l e (rM 1 20) s m args below meth c (isW ad) D t ad 0 0 5 (Qi below D t ad args s r0 G0) G 46 [some (.ref (ad k)), none, some (.int l2), some (.int l3), some (.int l4)] [] := by
  intro n
  induction n with
  | zero => intro l2 l3 l4 G hsh; rw [sh_X1_remove_46.eq_1] at hsh; cases hsh
  | succ n ih =>
    intro l2 l3 l4 G hsh
    rw [sh_X1_remove_46.eq_2] at hsh
    refine v_iload C dX1_remove_46 rfl ?_
    refine v_bipush C dX1_remove_48 (v := 16) (by decide) ?_
    refine v_ic_ge C 70 dX1_remove_50 (by decide) (fun hc => ?_) (fun hc => ?_)
    · replace hsh := ite_p hc hsh
      exact v_wk (hk70 _ _ hsh) (wk_of (And.intro rfl trivial))
    · replace hsh := ite_n hc hsh
      refine v_aloadn C dX1_remove_53 rfl ?_
      refine f1_3 C hm dX1_remove_54 ?_
      refine v_iload C dX1_remove_57 rfl ?_
      refine v_dup2 C dX1_remove_59 rfl rfl ?_
      obtain ⟨h12, hsh⟩ := g_if hsh
      refine v_ld C (k := (k + 4)) (isM_lt hm (by decide)) (ce_ma hm (by decide) (by decide)) (gin_in h12) dX1_remove_60 ?_
      refine v_iloadn C dX1_remove_61 rfl ?_
      refine v_iand C dX1_remove_62 ?_
      refine v_st C (k := (k + 4)) (isM_lt hm (by decide)) (fun _ => ce_ma hm (by decide) (by decide)) (gin_in h12) dX1_remove_63 ?_
      obtain ⟨G13, e14, hsh⟩ := bng_e hsh
      refine v_bg e14 ?_
      refine v_iinc C dX1_remove_64 rfl (v := 1) (by decide) (by decide) ?_
      refine v_goto C 46 dX1_remove_67 (by decide) ?_
      exact v_wk (ih _ _ _ _ hsh) (wk_of (And.intro rfl (And.intro rfl (And.intro rfl (And.intro rfl trivial)))))
set_option maxRecDepth 100000 in
set_option maxHeartbeats 4000000 in
theorem c_X1_remove (l : Launch) (D : va_G) (t : gT) (ad : Nat → Nat) (hI : gI ad) {k : Nat} (hm : isM k) {l1 : Int32} {G : gG} {r0 : Int32} {G0 : gG} (hsh : sh_X1_remove k l1 G = some (r0, G0)) : Mi l D t ad yX1_remove cX1_remove 5 (some .int) (rM 1 20) [.ref (ad k), .int l1] G r0 G0 := by
  refine m_go hI RX1 rfl (by decide +kernel) ⟨rfl, rfl⟩ (Nat.le_of_ble_eq_true rfl) rfl [some (.ref (ad k)), some (.int l1), none, none, none] rfl (fun p e s m args below meth c C => ?_)
  unfold sh_X1_remove at hsh
  refine v_aloadn C dX1_remove_0 rfl ?_
  refine f1_3 C hm dX1_remove_1 ?_
  refine v_iloadn C dX1_remove_4 rfl ?_
  obtain ⟨h1, hsh⟩ := g_if hsh
  refine v_ld C (k := (k + 4)) (isM_lt hm (by decide)) (ce_ma hm (by decide) (by decide)) (gin_in h1) dX1_remove_5 ?_
  refine v_callS (nP := 1) C (c_J6_bitCount_0f7a4 l D t ad hI  (G := G) rfl) k150 k148 k149 k6 yo_J6_bitCount_0f7a4 ⟨Nat.le_of_ble_eq_true rfl, Nat.le_of_ble_eq_true rfl, rfl, rfl, Nat.zero_le _, Nat.zero_le _⟩ rfl rfl (Nat.le_of_ble_eq_true rfl) dX1_remove_6 ?_
  obtain ⟨z2, e3, hsh⟩ := bni_e hsh
  refine v_bi e3 ?_
  refine v_istoren C dX1_remove_9 (by decide) ?_
  refine v_iconst C dX1_remove_10 (v := 1) (by decide) ?_
  refine v_iloadn C dX1_remove_11 rfl ?_
  refine v_ishl C dX1_remove_12 ?_
  refine v_iconst C dX1_remove_13 (v := -1) (by decide) ?_
  refine v_ixor C dX1_remove_14 ?_
  obtain ⟨z4, e5, hsh⟩ := bni_e hsh
  refine v_bi e5 ?_
  refine v_istoren C dX1_remove_15 (by decide) ?_
  refine v_aloadn C dX1_remove_16 rfl ?_
  refine v_dup C dX1_remove_17 rfl ?_
  refine f1_8 C hm dX1_remove_18 ?_
  refine v_iloadn C dX1_remove_21 rfl ?_
  refine v_iand C dX1_remove_22 ?_
  refine p1_8 C hm dX1_remove_23 ?_
  obtain ⟨G6, e7, hsh⟩ := bng_e hsh
  refine v_bg e7 ?_
  refine v_aloadn C dX1_remove_26 rfl ?_
  refine v_dup C dX1_remove_27 rfl ?_
  refine f1_9 C hm dX1_remove_28 ?_
  refine v_iloadn C dX1_remove_31 rfl ?_
  refine v_iand C dX1_remove_32 ?_
  refine p1_9 C hm dX1_remove_33 ?_
  obtain ⟨G8, e9, hsh⟩ := bng_e hsh
  refine v_bg e9 ?_
  refine v_aloadn C dX1_remove_36 rfl ?_
  refine f1_3 C hm dX1_remove_37 ?_
  refine v_iloadn C dX1_remove_40 rfl ?_
  refine v_iconst C dX1_remove_41 (v := 0) (by decide) ?_
  refine v_st C (k := (k + 4)) (isM_lt hm (by decide)) (fun _ => ce_ma hm (by decide) (by decide)) (gin_in h1) dX1_remove_42 ?_
  obtain ⟨G10, e11, hsh⟩ := bng_e hsh
  refine v_bg e11 ?_
  refine v_iconst C dX1_remove_43 (v := 0) (by decide) ?_
  refine v_istore C dX1_remove_44 (by decide) ?_
  refine v_wk (lp_X1_remove_46 C hI hm (fun l2 G hsh => ?_) FU _ _ _ _ hsh) (wk_of (And.intro rfl (And.intro rfl (And.intro rfl (And.intro rfl trivial)))))
  refine v_iloadn C dX1_remove_70 rfl ?_
  obtain ⟨rfl, rfl⟩ := so_i hsh
  exact v_iret C dX1_remove_71
theorem yo_X1_remove : yOk yX1_remove 1 := ⟨by decide, by decide, by decide +kernel⟩

def sh_X1_switchTo (k : Nat) (l1 : Int32) (l2 : Int32) (G : gG) : Option (gG) := (if l2 = (0 : Int32) then (bng (gu G k 9 ((G k 9) &&& (((1 : Int32) <<< (l1 &&& 31)) ^^^ (-1 : Int32)))) fun G1 => some G1) else (bng (gu G k 9 ((G k 9) ||| ((1 : Int32) <<< (l1 &&& 31)))) fun G3 => some G3))
set_option maxRecDepth 100000 in
set_option maxHeartbeats 4000000 in
theorem c_X1_switchTo (l : Launch) (D : va_G) (t : gT) (ad : Nat → Nat) (hI : gI ad) {k : Nat} (hm : isM k) {l1 : Int32} {l2 : Int32} {G : gG} {G0 : gG} (hsh : sh_X1_switchTo k l1 l2 G = some G0) : Mv l D t ad yX1_switchTo cX1_switchTo 3 (rM 0 0) [.ref (ad k), .int l1, .int l2] G G0 := by
  refine m_go hI RX1 rfl (by decide +kernel) ⟨rfl, rfl⟩ (Nat.le_of_ble_eq_true rfl) rfl [some (.ref (ad k)), some (.int l1), some (.int l2)] rfl (fun p e s m args below meth c C => ?_)
  unfold sh_X1_switchTo at hsh
  refine v_iloadn C dX1_switchTo_0 rfl ?_
  refine v_if_eq C 19 dX1_switchTo_1 (by decide) (fun hc => ?_) (fun hc => ?_)
  · replace hsh := ite_p hc hsh
    refine v_aloadn C dX1_switchTo_19 rfl ?_
    refine v_dup C dX1_switchTo_20 rfl ?_
    refine f1_9 C hm dX1_switchTo_21 ?_
    refine v_iconst C dX1_switchTo_24 (v := 1) (by decide) ?_
    refine v_iloadn C dX1_switchTo_25 rfl ?_
    refine v_ishl C dX1_switchTo_26 ?_
    refine v_iconst C dX1_switchTo_27 (v := -1) (by decide) ?_
    refine v_ixor C dX1_switchTo_28 ?_
    refine v_iand C dX1_switchTo_29 ?_
    refine p1_9 C hm dX1_switchTo_30 ?_
    obtain ⟨G1, e2, hsh⟩ := bng_e hsh
    refine v_bg e2 ?_
    obtain rfl := so_1 hsh
    exact v_vret C dX1_switchTo_33
  · replace hsh := ite_n hc hsh
    refine v_aloadn C dX1_switchTo_4 rfl ?_
    refine v_dup C dX1_switchTo_5 rfl ?_
    refine f1_9 C hm dX1_switchTo_6 ?_
    refine v_iconst C dX1_switchTo_9 (v := 1) (by decide) ?_
    refine v_iloadn C dX1_switchTo_10 rfl ?_
    refine v_ishl C dX1_switchTo_11 ?_
    refine v_ior C dX1_switchTo_12 ?_
    refine p1_9 C hm dX1_switchTo_13 ?_
    obtain ⟨G3, e4, hsh⟩ := bng_e hsh
    refine v_bg e4 ?_
    refine v_goto C 33 dX1_switchTo_16 (by decide) ?_
    obtain rfl := so_1 hsh
    exact v_vret C dX1_switchTo_33
theorem yo_X1_switchTo : yOk yX1_switchTo 2 := ⟨by decide, by decide, by decide +kernel⟩

def sh_X1_changeLink (k : Nat) (l1 : Int32) (l2 : Int32) (l3 : Int32) (G : gG) : Option (gG) := (if l3 = (0 : Int32) then (if gin l1 16 = true then (bng (gu G (k + 4) (l1).toNatClampNeg ((G (k + 4) (l1).toNatClampNeg) &&& (((1 : Int32) <<< (l2 &&& 31)) ^^^ (-1 : Int32)))) fun G2 => (if gin l2 16 = true then (bng (gu G2 (k + 4) (l2).toNatClampNeg ((G2 (k + 4) (l2).toNatClampNeg) &&& (((1 : Int32) <<< (l1 &&& 31)) ^^^ (-1 : Int32)))) fun G5 => some G5) else none)) else none) else (if gin l1 16 = true then (bng (gu G (k + 4) (l1).toNatClampNeg ((G (k + 4) (l1).toNatClampNeg) ||| ((1 : Int32) <<< (l2 &&& 31)))) fun G8 => (if gin l2 16 = true then (bng (gu G8 (k + 4) (l2).toNatClampNeg ((G8 (k + 4) (l2).toNatClampNeg) ||| ((1 : Int32) <<< (l1 &&& 31)))) fun G11 => some G11) else none)) else none))
set_option maxRecDepth 100000 in
set_option maxHeartbeats 4000000 in
theorem c_X1_changeLink (l : Launch) (D : va_G) (t : gT) (ad : Nat → Nat) (hI : gI ad) {k : Nat} (hm : isM k) {l1 : Int32} {l2 : Int32} {l3 : Int32} {G : gG} {G0 : gG} (hsh : sh_X1_changeLink k l1 l2 l3 G = some G0) : Mv l D t ad yX1_changeLink cX1_changeLink 4 (rM 0 0) [.ref (ad k), .int l1, .int l2, .int l3] G G0 := by
  refine m_go hI RX1 rfl (by decide +kernel) ⟨rfl, rfl⟩ (Nat.le_of_ble_eq_true rfl) rfl [some (.ref (ad k)), some (.int l1), some (.int l2), some (.int l3)] rfl (fun p e s m args below meth c C => ?_)
  unfold sh_X1_changeLink at hsh
  refine v_iloadn C dX1_changeLink_0 rfl ?_
  refine v_if_eq C 31 dX1_changeLink_1 (by decide) (fun hc => ?_) (fun hc => ?_)
  · replace hsh := ite_p hc hsh
    refine v_aloadn C dX1_changeLink_31 rfl ?_
    refine f1_3 C hm dX1_changeLink_32 ?_
    refine v_iloadn C dX1_changeLink_35 rfl ?_
    refine v_dup2 C dX1_changeLink_36 rfl rfl ?_
    obtain ⟨h1, hsh⟩ := g_if hsh
    refine v_ld C (k := (k + 4)) (isM_lt hm (by decide)) (ce_ma hm (by decide) (by decide)) (gin_in h1) dX1_changeLink_37 ?_
    refine v_iconst C dX1_changeLink_38 (v := 1) (by decide) ?_
    refine v_iloadn C dX1_changeLink_39 rfl ?_
    refine v_ishl C dX1_changeLink_40 ?_
    refine v_iconst C dX1_changeLink_41 (v := -1) (by decide) ?_
    refine v_ixor C dX1_changeLink_42 ?_
    refine v_iand C dX1_changeLink_43 ?_
    refine v_st C (k := (k + 4)) (isM_lt hm (by decide)) (fun _ => ce_ma hm (by decide) (by decide)) (gin_in h1) dX1_changeLink_44 ?_
    obtain ⟨G2, e3, hsh⟩ := bng_e hsh
    refine v_bg e3 ?_
    refine v_aloadn C dX1_changeLink_45 rfl ?_
    refine f1_3 C hm dX1_changeLink_46 ?_
    refine v_iloadn C dX1_changeLink_49 rfl ?_
    refine v_dup2 C dX1_changeLink_50 rfl rfl ?_
    obtain ⟨h4, hsh⟩ := g_if hsh
    refine v_ld C (k := (k + 4)) (isM_lt hm (by decide)) (ce_ma hm (by decide) (by decide)) (gin_in h4) dX1_changeLink_51 ?_
    refine v_iconst C dX1_changeLink_52 (v := 1) (by decide) ?_
    refine v_iloadn C dX1_changeLink_53 rfl ?_
    refine v_ishl C dX1_changeLink_54 ?_
    refine v_iconst C dX1_changeLink_55 (v := -1) (by decide) ?_
    refine v_ixor C dX1_changeLink_56 ?_
    refine v_iand C dX1_changeLink_57 ?_
    refine v_st C (k := (k + 4)) (isM_lt hm (by decide)) (fun _ => ce_ma hm (by decide) (by decide)) (gin_in h4) dX1_changeLink_58 ?_
    obtain ⟨G5, e6, hsh⟩ := bng_e hsh
    refine v_bg e6 ?_
    obtain rfl := so_1 hsh
    exact v_vret C dX1_changeLink_59
  · replace hsh := ite_n hc hsh
    refine v_aloadn C dX1_changeLink_4 rfl ?_
    refine f1_3 C hm dX1_changeLink_5 ?_
    refine v_iloadn C dX1_changeLink_8 rfl ?_
    refine v_dup2 C dX1_changeLink_9 rfl rfl ?_
    obtain ⟨h7, hsh⟩ := g_if hsh
    refine v_ld C (k := (k + 4)) (isM_lt hm (by decide)) (ce_ma hm (by decide) (by decide)) (gin_in h7) dX1_changeLink_10 ?_
    refine v_iconst C dX1_changeLink_11 (v := 1) (by decide) ?_
    refine v_iloadn C dX1_changeLink_12 rfl ?_
    refine v_ishl C dX1_changeLink_13 ?_
    refine v_ior C dX1_changeLink_14 ?_
    refine v_st C (k := (k + 4)) (isM_lt hm (by decide)) (fun _ => ce_ma hm (by decide) (by decide)) (gin_in h7) dX1_changeLink_15 ?_
    obtain ⟨G8, e9, hsh⟩ := bng_e hsh
    refine v_bg e9 ?_
    refine v_aloadn C dX1_changeLink_16 rfl ?_
    refine f1_3 C hm dX1_changeLink_17 ?_
    refine v_iloadn C dX1_changeLink_20 rfl ?_
    refine v_dup2 C dX1_changeLink_21 rfl rfl ?_
    obtain ⟨h10, hsh⟩ := g_if hsh
    refine v_ld C (k := (k + 4)) (isM_lt hm (by decide)) (ce_ma hm (by decide) (by decide)) (gin_in h10) dX1_changeLink_22 ?_
    refine v_iconst C dX1_changeLink_23 (v := 1) (by decide) ?_
    refine v_iloadn C dX1_changeLink_24 rfl ?_
    refine v_ishl C dX1_changeLink_25 ?_
    refine v_ior C dX1_changeLink_26 ?_
    refine v_st C (k := (k + 4)) (isM_lt hm (by decide)) (fun _ => ce_ma hm (by decide) (by decide)) (gin_in h10) dX1_changeLink_27 ?_
    obtain ⟨G11, e12, hsh⟩ := bng_e hsh
    refine v_bg e12 ?_
    refine v_goto C 59 dX1_changeLink_28 (by decide) ?_
    obtain rfl := so_1 hsh
    exact v_vret C dX1_changeLink_59
theorem yo_X1_changeLink : yOk yX1_changeLink 3 := ⟨by decide, by decide, by decide +kernel⟩

def sh_X1_retune (k : Nat) (l1 : Int32) (l2 : Int32) (l3 : Int32) (G : gG) : Option (Int32 × gG) := (if gin l1 16 = true then (bng (gu G (k + 1) (l1).toNatClampNeg (l2 * (100 : Int32))) fun G2 => (bng (gu G2 (k + 2) (l1).toNatClampNeg l3) fun G4 => some ((G (k + 1) (l1).toNatClampNeg), G4))) else none)
set_option maxRecDepth 100000 in
set_option maxHeartbeats 4000000 in
theorem c_X1_retune (l : Launch) (D : va_G) (t : gT) (ad : Nat → Nat) (hI : gI ad) {k : Nat} (hm : isM k) {l1 : Int32} {l2 : Int32} {l3 : Int32} {G : gG} {r0 : Int32} {G0 : gG} (hsh : sh_X1_retune k l1 l2 l3 G = some (r0, G0)) : Mi l D t ad yX1_retune cX1_retune 5 (some .int) (rM 0 0) [.ref (ad k), .int l1, .int l2, .int l3] G r0 G0 := by
  refine m_go hI RX1 rfl (by decide +kernel) ⟨rfl, rfl⟩ (Nat.le_of_ble_eq_true rfl) rfl [some (.ref (ad k)), some (.int l1), some (.int l2), some (.int l3), none] rfl (fun p e s m args below meth c C => ?_)
  unfold sh_X1_retune at hsh
  refine v_aloadn C dX1_retune_0 rfl ?_
  refine f1_0 C hm dX1_retune_1 ?_
  refine v_iloadn C dX1_retune_4 rfl ?_
  obtain ⟨h1, hsh⟩ := g_if hsh
  refine v_ld C (k := (k + 1)) (isM_lt hm (by decide)) (ce_ma hm (by decide) (by decide)) (gin_in h1) dX1_retune_5 ?_
  refine v_istore C dX1_retune_6 (by decide) ?_
  refine v_aloadn C dX1_retune_8 rfl ?_
  refine f1_0 C hm dX1_retune_9 ?_
  refine v_iloadn C dX1_retune_12 rfl ?_
  refine v_iloadn C dX1_retune_13 rfl ?_
  refine v_bipush C dX1_retune_14 (v := 100) (by decide) ?_
  refine v_imul C dX1_retune_16 ?_
  refine v_st C (k := (k + 1)) (isM_lt hm (by decide)) (fun _ => ce_ma hm (by decide) (by decide)) (gin_in h1) dX1_retune_17 ?_
  obtain ⟨G2, e3, hsh⟩ := bng_e hsh
  refine v_bg e3 ?_
  refine v_aloadn C dX1_retune_18 rfl ?_
  refine f1_1 C hm dX1_retune_19 ?_
  refine v_iloadn C dX1_retune_22 rfl ?_
  refine v_iloadn C dX1_retune_23 rfl ?_
  refine v_st C (k := (k + 2)) (isM_lt hm (by decide)) (fun _ => ce_ma hm (by decide) (by decide)) (gin_in h1) dX1_retune_24 ?_
  obtain ⟨G4, e5, hsh⟩ := bng_e hsh
  refine v_bg e5 ?_
  refine v_iload C dX1_retune_25 rfl ?_
  obtain ⟨rfl, rfl⟩ := so_i hsh
  exact v_iret C dX1_retune_27
theorem yo_X1_retune : yOk yX1_retune 3 := ⟨by decide, by decide, by decide +kernel⟩

def sh_X1_fullPhase (k : Nat) (G : gG) : Option (Int32) := some ((G (k + 8) ((0 : Int32)).toNatClampNeg) * (100 : Int32))
set_option maxRecDepth 100000 in
set_option maxHeartbeats 4000000 in
theorem c_X1_fullPhase (l : Launch) (D : va_G) (t : gT) (ad : Nat → Nat) (hI : gI ad) {k : Nat} (hm : isM k) {G : gG} {r0 : Int32} (hsh : sh_X1_fullPhase k G = some r0) : Mi l D t ad yX1_fullPhase cX1_fullPhase 1 (some .int) (rM 0 0) [.ref (ad k)] G r0 G := by
  refine m_go hI RX1 rfl (by decide +kernel) ⟨rfl, rfl⟩ (Nat.le_of_ble_eq_true rfl) rfl [some (.ref (ad k))] rfl (fun p e s m args below meth c C => ?_)
  unfold sh_X1_fullPhase at hsh
  refine v_aloadn C dX1_fullPhase_0 rfl ?_
  refine f1_7 C hm dX1_fullPhase_1 ?_
  refine v_iconst C dX1_fullPhase_4 (v := 0) (by decide) ?_
  refine v_ld C (k := (k + 8)) (isM_lt hm (by decide)) (ce_m8 hm) (gin_in (by decide)) dX1_fullPhase_5 ?_
  refine v_bipush C dX1_fullPhase_6 (v := 100) (by decide) ?_
  refine v_imul C dX1_fullPhase_8 ?_
  obtain rfl := so_1 hsh
  exact v_iret C dX1_fullPhase_9
theorem yo_X1_fullPhase : yOk yX1_fullPhase 0 := ⟨by decide, by decide, by decide +kernel⟩

def sh_X1_fitPhases_2 (k : Nat) (kt35 : gG → Option (gG)) : Nat → Int32 → gG → Option (gG)
  | 0, _, _ => none
  | n + 1, l1, G => (if (16 : Int32) ≤ l1 then kt35  G else (if gin l1 16 = true then (obp (sh_X1_fullPhase k G) fun r3 => (bng (gu G (k + 1) (l1).toNatClampNeg (if (r3 - (1 : Int32)) < (G (k + 1) (l1).toNatClampNeg) then (r3 - (1 : Int32)) else (G (k + 1) (l1).toNatClampNeg))) fun G4 => sh_X1_fitPhases_2 k kt35 n (l1 + 1) G4)) else none))
def sh_X1_fitPhases (k : Nat) (G : gG) : Option (gG) := (sh_X1_fitPhases_2 k (fun G => some G) FU (0 : Int32) G)
set_option maxRecDepth 100000 in
set_option maxHeartbeats 4000000 in
theorem lp_X1_fitPhases_2 {p : Program} {l : Launch} {e : Env} {s : State} {m : MethodId} {args : Array Value} {below : List Frame} {meth : Method} {c : Code} {D : va_G} {t : gT} {ad : Nat → Nat} (C : gC p s m args meth c cX1_fitPhases RX1 2 none (isW ad) D t ad) (hI : gI ad) {k : Nat} (hm : isM k) {G0 : gG} {kt35 : gG → Option (gG)} (hk35 : ∀ (G : gG) , kt35 G = some G0 → V p l e (rM 1 21) s m args below meth c (isW ad) D t ad 0 0 2 (Qv below D t ad args s G0) G 35 [none, none] []) : ∀ (n : Nat) (l1 : Int32) (G : gG) , sh_X1_fitPhases_2 k kt35 n l1 G = some G0 → V p l e (rM 1 21) s m args below meth c (isW ad) D t ad 0 0 2 (Qv below D t ad args s G0) G 2 [some (.ref (ad k)), some (.int l1)] [] := by
  intro n
  induction n with
  | zero => intro l1 G hsh; rw [sh_X1_fitPhases_2.eq_1] at hsh; cases hsh
  | succ n ih =>
    intro l1 G hsh
    rw [sh_X1_fitPhases_2.eq_2] at hsh
    refine v_iloadn C dX1_fitPhases_2 rfl ?_
    refine v_bipush C dX1_fitPhases_3 (v := 16) (by decide) ?_
    refine v_ic_ge C 35 dX1_fitPhases_5 (by decide) (fun hc => ?_) (fun hc => ?_)
    · replace hsh := ite_p hc hsh
      exact v_wk (hk35  _ hsh) (wk_of trivial)
    · replace hsh := ite_n hc hsh
      refine v_aloadn C dX1_fitPhases_8 rfl ?_
      refine f1_0 C hm dX1_fitPhases_9 ?_
      refine v_iloadn C dX1_fitPhases_12 rfl ?_
      refine v_aloadn C dX1_fitPhases_13 rfl ?_
      refine f1_0 C hm dX1_fitPhases_14 ?_
      refine v_iloadn C dX1_fitPhases_17 rfl ?_
      obtain ⟨h1, hsh⟩ := g_if hsh
      refine v_ld C (k := (k + 1)) (isM_lt hm (by decide)) (ce_ma hm (by decide) (by decide)) (gin_in h1) dX1_fitPhases_18 ?_
      refine v_aloadn C dX1_fitPhases_19 rfl ?_
      obtain ⟨r3, e2, hsh⟩ := obp_e hsh
      refine v_callI (nP := 0) (k := k) C (isM_lt (f := 0) hm (by decide)) (ce_m hm) rfl (c_X1_fullPhase l D t ad hI hm e2) k203 k200 k202 kp2 k2 yo_X1_fullPhase ⟨Nat.le_of_ble_eq_true rfl, Nat.le_of_ble_eq_true rfl, rfl, rfl, Nat.zero_le _, Nat.zero_le _⟩ rfl rfl (Nat.le_of_ble_eq_true rfl) dX1_fitPhases_20 ?_
      refine v_iconst C dX1_fitPhases_23 (v := 1) (by decide) ?_
      refine v_isub C dX1_fitPhases_24 ?_
      refine v_min C k216 k217 k5 k218 ⟨Nat.le_of_ble_eq_true rfl, Nat.le_of_ble_eq_true rfl, Nat.zero_le _, Nat.zero_le _⟩ (Nat.le_of_ble_eq_true rfl) dX1_fitPhases_25 ?_
      refine v_st C (k := (k + 1)) (isM_lt hm (by decide)) (fun _ => ce_ma hm (by decide) (by decide)) (gin_in h1) dX1_fitPhases_28 ?_
      obtain ⟨G4, e5, hsh⟩ := bng_e hsh
      refine v_bg e5 ?_
      refine v_iinc C dX1_fitPhases_29 rfl (v := 1) (by decide) (by decide) ?_
      refine v_goto C 2 dX1_fitPhases_32 (by decide) ?_
      exact v_wk (ih _ _ hsh) (wk_of (And.intro rfl (And.intro rfl trivial)))
set_option maxRecDepth 100000 in
set_option maxHeartbeats 4000000 in
theorem c_X1_fitPhases (l : Launch) (D : va_G) (t : gT) (ad : Nat → Nat) (hI : gI ad) {k : Nat} (hm : isM k) {G : gG} {G0 : gG} (hsh : sh_X1_fitPhases k G = some G0) : Mv l D t ad yX1_fitPhases cX1_fitPhases 2 (rM 1 21) [.ref (ad k)] G G0 := by
  refine m_go hI RX1 rfl (by decide +kernel) ⟨rfl, rfl⟩ (Nat.le_of_ble_eq_true rfl) rfl [some (.ref (ad k)), none] rfl (fun p e s m args below meth c C => ?_)
  unfold sh_X1_fitPhases at hsh
  refine v_iconst C dX1_fitPhases_0 (v := 0) (by decide) ?_
  refine v_istoren C dX1_fitPhases_1 (by decide) ?_
  refine v_wk (lp_X1_fitPhases_2 C hI hm (fun G hsh => ?_) FU _ _ hsh) (wk_of (And.intro rfl (And.intro rfl trivial)))
  obtain rfl := so_1 hsh
  exact v_vret C dX1_fitPhases_35
theorem yo_X1_fitPhases : yOk yX1_fitPhases 0 := ⟨by decide, by decide, by decide +kernel⟩

def sh_X1_changeSetting (k : Nat) (l1 : Int32) (l2 : Int32) (G : gG) : Option (Int32 × gG) := (if gin l1 3 = true then (bng (gu G (k + 8) (l1).toNatClampNeg l2) fun G2 => (obv (sh_X1_fitPhases k G2) fun G5 => some ((G (k + 8) (l1).toNatClampNeg), G5))) else none)
set_option maxRecDepth 100000 in
set_option maxHeartbeats 4000000 in
theorem c_X1_changeSetting (l : Launch) (D : va_G) (t : gT) (ad : Nat → Nat) (hI : gI ad) {k : Nat} (hm : isM k) {l1 : Int32} {l2 : Int32} {G : gG} {r0 : Int32} {G0 : gG} (hsh : sh_X1_changeSetting k l1 l2 G = some (r0, G0)) : Mi l D t ad yX1_changeSetting cX1_changeSetting 4 (some .int) (rM 2 42) [.ref (ad k), .int l1, .int l2] G r0 G0 := by
  refine m_go hI RX1 rfl (by decide +kernel) ⟨rfl, rfl⟩ (Nat.le_of_ble_eq_true rfl) rfl [some (.ref (ad k)), some (.int l1), some (.int l2), none] rfl (fun p e s m args below meth c C => ?_)
  unfold sh_X1_changeSetting at hsh
  refine v_aloadn C dX1_changeSetting_0 rfl ?_
  refine f1_7 C hm dX1_changeSetting_1 ?_
  refine v_iloadn C dX1_changeSetting_4 rfl ?_
  obtain ⟨h1, hsh⟩ := g_if hsh
  refine v_ld C (k := (k + 8)) (isM_lt hm (by decide)) (ce_m8 hm) (gin_in h1) dX1_changeSetting_5 ?_
  refine v_istoren C dX1_changeSetting_6 (by decide) ?_
  refine v_aloadn C dX1_changeSetting_7 rfl ?_
  refine f1_7 C hm dX1_changeSetting_8 ?_
  refine v_iloadn C dX1_changeSetting_11 rfl ?_
  refine v_iloadn C dX1_changeSetting_12 rfl ?_
  refine v_st C (k := (k + 8)) (isM_lt hm (by decide)) (fun _ => ce_m8 hm) (gin_in h1) dX1_changeSetting_13 ?_
  obtain ⟨G2, e3, hsh⟩ := bng_e hsh
  refine v_bg e3 ?_
  refine v_aloadn C dX1_changeSetting_14 rfl ?_
  obtain ⟨G5, e4, hsh⟩ := obv_e hsh
  refine v_callV (nP := 0) (k := k) C (isM_lt (f := 0) hm (by decide)) (ce_m hm) rfl (c_X1_fitPhases l D t ad hI hm e4) k470 k467 k468 k469 k2 yo_X1_fitPhases ⟨Nat.le_of_ble_eq_true rfl, Nat.le_of_ble_eq_true rfl, rfl, rfl, Nat.zero_le _, Nat.zero_le _⟩ rfl rfl (Nat.le_of_ble_eq_true rfl) dX1_changeSetting_15 ?_
  refine v_iloadn C dX1_changeSetting_18 rfl ?_
  obtain ⟨rfl, rfl⟩ := so_i hsh
  exact v_iret C dX1_changeSetting_19
theorem yo_X1_changeSetting : yOk yX1_changeSetting 2 := ⟨by decide, by decide, by decide +kernel⟩

def sh_X1_grow_j60 (k : Nat) (kt82 : Int32 → gG → Option (Int32 × gG)) (self9 : Int32 → Int32 → Int32 → gG → Option (Int32 × gG)) (l1 : Int32) (l2 : Int32) (l3 : Int32) (G : gG) : Option (Int32 × gG) := (if gin l3 16 = true then (if (G (k + 1) (l3).toNatClampNeg) < l1 then self9 l1 l2 (l3 + 1) G else self9 l1 (l2 ||| ((1 : Int32) <<< (l3 &&& 31))) (l3 + 1) G) else none)
def sh_X1_grow_9 (k : Nat) (kt82 : Int32 → gG → Option (Int32 × gG)) : Nat → Int32 → Int32 → Int32 → gG → Option (Int32 × gG)
  | 0, _, _, _, _ => none
  | n + 1, l1, l2, l3, G => (if (16 : Int32) ≤ l3 then kt82 l2 G else (if (sh_X3_holds (G k 9) l3) = (0 : Int32) then sh_X1_grow_9 k kt82 n l1 l2 (l3 + 1) G else (if gin l3 16 = true then (bng (gu G (k + 1) (l3).toNatClampNeg ((G (k + 1) (l3).toNatClampNeg) + (G (k + 2) (l3).toNatClampNeg))) fun G4 => (if (G4 (k + 3) (l3).toNatClampNeg) ≤ (0 : Int32) then (sh_X1_grow_j60 k kt82 (sh_X1_grow_9 k kt82 n) l1 l2 l3 G4) else (bng (gu G4 (k + 3) (l3).toNatClampNeg ((G4 (k + 3) (l3).toNatClampNeg) - (1 : Int32))) fun G7 => (sh_X1_grow_j60 k kt82 (sh_X1_grow_9 k kt82 n) l1 l2 l3 G7)))) else none)))
def sh_X1_grow (k : Nat) (G : gG) : Option (Int32 × gG) := (obp (sh_X1_fullPhase k G) fun r2 => (sh_X1_grow_9 k (fun l2 G => some (l2, G)) FU r2 (0 : Int32) (0 : Int32) G))
set_option maxRecDepth 100000 in
set_option maxHeartbeats 4000000 in
theorem lp_X1_grow_9 {p : Program} {l : Launch} {e : Env} {s : State} {m : MethodId} {args : Array Value} {below : List Frame} {meth : Method} {c : Code} {D : va_G} {t : gT} {ad : Nat → Nat} (C : gC p s m args meth c cX1_grow RX1 4 (some .int) (isW ad) D t ad) (hI : gI ad) {k : Nat} (hm : isM k) {r0 : Int32} {G0 : gG} {kt82 : Int32 → gG → Option (Int32 × gG)} (hk82 : ∀ (l2 : Int32) (G : gG) , kt82 l2 G = some (r0, G0) → V p l e (rM 1 21) s m args below meth c (isW ad) D t ad 0 0 4 (Qi below D t ad args s r0 G0) G 82 [none, none, some (.int l2), none] []) : ∀ (n : Nat) (l1 : Int32) (l2 : Int32) (l3 : Int32) (G : gG) , sh_X1_grow_9 k kt82 n l1 l2 l3 G = some (r0, G0) → V p l e (rM 1 21) s m args below meth c (isW ad) D t ad 0 0 4 (Qi below D t ad args s r0 G0) G 9 [some (.ref (ad k)), some (.int l1), some (.int l2), some (.int l3)] [] := by
  intro n
  induction n with
  | zero => intro l1 l2 l3 G hsh; rw [sh_X1_grow_9.eq_1] at hsh; cases hsh
  | succ n ih =>
    intro l1 l2 l3 G hsh
    rw [sh_X1_grow_9.eq_2] at hsh
    have hj60 : ∀ (l1 : Int32) (l2 : Int32) (l3 : Int32) (G : gG) , sh_X1_grow_j60 k kt82 (sh_X1_grow_9 k kt82 n) l1 l2 l3 G = some (r0, G0) → V p l e (rM 1 21) s m args below meth c (isW ad) D t ad 0 0 4 (Qi below D t ad args s r0 G0) G 60 [some (.ref (ad k)), some (.int l1), some (.int l2), some (.int l3)] [] := by
      intro l1 l2 l3 G hsh
      unfold sh_X1_grow_j60 at hsh
      refine v_aloadn C dX1_grow_60 rfl ?_
      refine f1_0 C hm dX1_grow_61 ?_
      refine v_iloadn C dX1_grow_64 rfl ?_
      obtain ⟨h6, hsh⟩ := g_if hsh
      refine v_ld C (k := (k + 1)) (isM_lt hm (by decide)) (ce_ma hm (by decide) (by decide)) (gin_in h6) dX1_grow_65 ?_
      refine v_iloadn C dX1_grow_66 rfl ?_
      refine v_ic_lt C 76 dX1_grow_67 (by decide) (fun hc => ?_) (fun hc => ?_)
      · replace hsh := ite_p hc hsh
        refine v_iinc C dX1_grow_76 rfl (v := 1) (by decide) (by decide) ?_
        refine v_goto C 9 dX1_grow_79 (by decide) ?_
        exact v_wk (ih _ _ _ _ hsh) (wk_of (And.intro rfl (And.intro rfl (And.intro rfl (And.intro rfl trivial)))))
      · replace hsh := ite_n hc hsh
        refine v_iloadn C dX1_grow_70 rfl ?_
        refine v_iconst C dX1_grow_71 (v := 1) (by decide) ?_
        refine v_iloadn C dX1_grow_72 rfl ?_
        refine v_ishl C dX1_grow_73 ?_
        refine v_ior C dX1_grow_74 ?_
        refine v_istoren C dX1_grow_75 (by decide) ?_
        refine v_iinc C dX1_grow_76 rfl (v := 1) (by decide) (by decide) ?_
        refine v_goto C 9 dX1_grow_79 (by decide) ?_
        exact v_wk (ih _ _ _ _ hsh) (wk_of (And.intro rfl (And.intro rfl (And.intro rfl (And.intro rfl trivial)))))
    refine v_iloadn C dX1_grow_9 rfl ?_
    refine v_bipush C dX1_grow_10 (v := 16) (by decide) ?_
    refine v_ic_ge C 82 dX1_grow_12 (by decide) (fun hc => ?_) (fun hc => ?_)
    · replace hsh := ite_p hc hsh
      exact v_wk (hk82 _ _ hsh) (wk_of (And.intro rfl trivial))
    · replace hsh := ite_n hc hsh
      refine v_aloadn C dX1_grow_15 rfl ?_
      refine f1_9 C hm dX1_grow_16 ?_
      refine v_iloadn C dX1_grow_19 rfl ?_
      refine v_callN (nP := 2) C (c_X3_holds l D t ad hI  (G := G) rfl) k156 (gc_x C).2.2.2.2.1.2.2.2.2.2 k155 k1 yo_X3_holds ⟨Nat.le_of_ble_eq_true rfl, Nat.le_of_ble_eq_true rfl, rfl, rfl, Nat.zero_le _, Nat.zero_le _⟩ rfl rfl (Nat.le_of_ble_eq_true rfl) dX1_grow_20 ?_
      refine v_if_eq C 76 dX1_grow_23 (by decide) (fun hc => ?_) (fun hc => ?_)
      · replace hsh := ite_p hc hsh
        refine v_iinc C dX1_grow_76 rfl (v := 1) (by decide) (by decide) ?_
        refine v_goto C 9 dX1_grow_79 (by decide) ?_
        exact v_wk (ih _ _ _ _ hsh) (wk_of (And.intro rfl (And.intro rfl (And.intro rfl (And.intro rfl trivial)))))
      · replace hsh := ite_n hc hsh
        refine v_aloadn C dX1_grow_26 rfl ?_
        refine f1_0 C hm dX1_grow_27 ?_
        refine v_iloadn C dX1_grow_30 rfl ?_
        refine v_dup2 C dX1_grow_31 rfl rfl ?_
        obtain ⟨h3, hsh⟩ := g_if hsh
        refine v_ld C (k := (k + 1)) (isM_lt hm (by decide)) (ce_ma hm (by decide) (by decide)) (gin_in h3) dX1_grow_32 ?_
        refine v_aloadn C dX1_grow_33 rfl ?_
        refine f1_1 C hm dX1_grow_34 ?_
        refine v_iloadn C dX1_grow_37 rfl ?_
        refine v_ld C (k := (k + 2)) (isM_lt hm (by decide)) (ce_ma hm (by decide) (by decide)) (gin_in h3) dX1_grow_38 ?_
        refine v_iadd C dX1_grow_39 ?_
        refine v_st C (k := (k + 1)) (isM_lt hm (by decide)) (fun _ => ce_ma hm (by decide) (by decide)) (gin_in h3) dX1_grow_40 ?_
        obtain ⟨G4, e5, hsh⟩ := bng_e hsh
        refine v_bg e5 ?_
        refine v_aloadn C dX1_grow_41 rfl ?_
        refine f1_2 C hm dX1_grow_42 ?_
        refine v_iloadn C dX1_grow_45 rfl ?_
        refine v_ld C (k := (k + 3)) (isM_lt hm (by decide)) (ce_ma hm (by decide) (by decide)) (gin_in h3) dX1_grow_46 ?_
        refine v_if_le C 60 dX1_grow_47 (by decide) (fun hc => ?_) (fun hc => ?_)
        · replace hsh := ite_p hc hsh
          exact v_wk (hj60 _ _ _ _ hsh) (wk_of (And.intro rfl (And.intro rfl (And.intro rfl (And.intro rfl trivial)))))
        · replace hsh := ite_n hc hsh
          refine v_aloadn C dX1_grow_50 rfl ?_
          refine f1_2 C hm dX1_grow_51 ?_
          refine v_iloadn C dX1_grow_54 rfl ?_
          refine v_dup2 C dX1_grow_55 rfl rfl ?_
          refine v_ld C (k := (k + 3)) (isM_lt hm (by decide)) (ce_ma hm (by decide) (by decide)) (gin_in h3) dX1_grow_56 ?_
          refine v_iconst C dX1_grow_57 (v := 1) (by decide) ?_
          refine v_isub C dX1_grow_58 ?_
          refine v_st C (k := (k + 3)) (isM_lt hm (by decide)) (fun _ => ce_ma hm (by decide) (by decide)) (gin_in h3) dX1_grow_59 ?_
          obtain ⟨G7, e8, hsh⟩ := bng_e hsh
          refine v_bg e8 ?_
          exact v_wk (hj60 _ _ _ _ hsh) (wk_of (And.intro rfl (And.intro rfl (And.intro rfl (And.intro rfl trivial)))))
set_option maxRecDepth 100000 in
set_option maxHeartbeats 4000000 in
theorem c_X1_grow (l : Launch) (D : va_G) (t : gT) (ad : Nat → Nat) (hI : gI ad) {k : Nat} (hm : isM k) {G : gG} {r0 : Int32} {G0 : gG} (hsh : sh_X1_grow k G = some (r0, G0)) : Mi l D t ad yX1_grow cX1_grow 4 (some .int) (rM 1 21) [.ref (ad k)] G r0 G0 := by
  refine m_go hI RX1 rfl (by decide +kernel) ⟨rfl, rfl⟩ (Nat.le_of_ble_eq_true rfl) rfl [some (.ref (ad k)), none, none, none] rfl (fun p e s m args below meth c C => ?_)
  unfold sh_X1_grow at hsh
  refine v_aloadn C dX1_grow_0 rfl ?_
  obtain ⟨r2, e1, hsh⟩ := obp_e hsh
  refine v_callI (nP := 0) (k := k) C (isM_lt (f := 0) hm (by decide)) (ce_m hm) rfl (c_X1_fullPhase l D t ad hI hm e1) k203 k200 k202 kp2 k2 yo_X1_fullPhase ⟨Nat.le_of_ble_eq_true rfl, Nat.le_of_ble_eq_true rfl, rfl, rfl, Nat.zero_le _, Nat.zero_le _⟩ rfl rfl (Nat.le_of_ble_eq_true rfl) dX1_grow_1 ?_
  refine v_istoren C dX1_grow_4 (by decide) ?_
  refine v_iconst C dX1_grow_5 (v := 0) (by decide) ?_
  refine v_istoren C dX1_grow_6 (by decide) ?_
  refine v_iconst C dX1_grow_7 (v := 0) (by decide) ?_
  refine v_istoren C dX1_grow_8 (by decide) ?_
  refine v_wk (lp_X1_grow_9 C hI hm (fun l2 G hsh => ?_) FU _ _ _ _ hsh) (wk_of (And.intro rfl (And.intro rfl (And.intro rfl (And.intro rfl trivial)))))
  refine v_iloadn C dX1_grow_82 rfl ?_
  obtain ⟨rfl, rfl⟩ := so_i hsh
  exact v_iret C dX1_grow_83
theorem yo_X1_grow : yOk yX1_grow 0 := ⟨by decide, by decide, by decide +kernel⟩

def sh_X1_blink_2 (k : Nat) (kt63 : gG → Option (gG)) : Nat → Int32 → Int32 → gG → Option (gG)
  | 0, _, _, _ => none
  | n + 1, l1, l2, G => (if (16 : Int32) ≤ l2 then kt63  G else (if (sh_X3_holds l1 l2) = (0 : Int32) then sh_X1_blink_2 k kt63 n l1 (l2 + 1) G else (if gin l2 16 = true then (bng (gu G (k + 1) (l2).toNatClampNeg (0 : Int32)) fun G2 => (bng (gu G2 (k + 3) (l2).toNatClampNeg (G2 (k + 8) ((2 : Int32)).toNatClampNeg)) fun G4 => (bng (gu G4 (k + 5) (l2).toNatClampNeg ((G4 (k + 5) (l2).toNatClampNeg) + (1 : Int32))) fun G6 => (bng (gu G6 (k + 6) (l2).toNatClampNeg ((G6 k 10) + (1 : Int32))) fun G8 => sh_X1_blink_2 k kt63 n l1 (l2 + 1) G8)))) else none)))
def sh_X1_blink (k : Nat) (l1 : Int32) (G : gG) : Option (gG) := (sh_X1_blink_2 k (fun G => some G) FU l1 (0 : Int32) G)
set_option maxRecDepth 100000 in
set_option maxHeartbeats 4000000 in
theorem lp_X1_blink_2 {p : Program} {l : Launch} {e : Env} {s : State} {m : MethodId} {args : Array Value} {below : List Frame} {meth : Method} {c : Code} {D : va_G} {t : gT} {ad : Nat → Nat} (C : gC p s m args meth c cX1_blink RX1 3 none (isW ad) D t ad) (hI : gI ad) {k : Nat} (hm : isM k) {G0 : gG} {kt63 : gG → Option (gG)} (hk63 : ∀ (G : gG) , kt63 G = some G0 → V p l e (rM 1 21) s m args below meth c (isW ad) D t ad 0 0 3 (Qv below D t ad args s G0) G 63 [none, none, none] []) : ∀ (n : Nat) (l1 : Int32) (l2 : Int32) (G : gG) , sh_X1_blink_2 k kt63 n l1 l2 G = some G0 → V p l e (rM 1 21) s m args below meth c (isW ad) D t ad 0 0 3 (Qv below D t ad args s G0) G 2 [some (.ref (ad k)), some (.int l1), some (.int l2)] [] := by
  intro n
  induction n with
  | zero => intro l1 l2 G hsh; rw [sh_X1_blink_2.eq_1] at hsh; cases hsh
  | succ n ih =>
    intro l1 l2 G hsh
    rw [sh_X1_blink_2.eq_2] at hsh
    refine v_iloadn C dX1_blink_2 rfl ?_
    refine v_bipush C dX1_blink_3 (v := 16) (by decide) ?_
    refine v_ic_ge C 63 dX1_blink_5 (by decide) (fun hc => ?_) (fun hc => ?_)
    · replace hsh := ite_p hc hsh
      exact v_wk (hk63  _ hsh) (wk_of trivial)
    · replace hsh := ite_n hc hsh
      refine v_iloadn C dX1_blink_8 rfl ?_
      refine v_iloadn C dX1_blink_9 rfl ?_
      refine v_callN (nP := 2) C (c_X3_holds l D t ad hI  (G := G) rfl) k156 (gc_x C).2.2.2.2.1.2.2.2.2.2 k155 k1 yo_X3_holds ⟨Nat.le_of_ble_eq_true rfl, Nat.le_of_ble_eq_true rfl, rfl, rfl, Nat.zero_le _, Nat.zero_le _⟩ rfl rfl (Nat.le_of_ble_eq_true rfl) dX1_blink_10 ?_
      refine v_if_eq C 57 dX1_blink_13 (by decide) (fun hc => ?_) (fun hc => ?_)
      · replace hsh := ite_p hc hsh
        refine v_iinc C dX1_blink_57 rfl (v := 1) (by decide) (by decide) ?_
        refine v_goto C 2 dX1_blink_60 (by decide) ?_
        exact v_wk (ih _ _ _ hsh) (wk_of (And.intro rfl (And.intro rfl (And.intro rfl trivial))))
      · replace hsh := ite_n hc hsh
        refine v_aloadn C dX1_blink_16 rfl ?_
        refine f1_0 C hm dX1_blink_17 ?_
        refine v_iloadn C dX1_blink_20 rfl ?_
        refine v_iconst C dX1_blink_21 (v := 0) (by decide) ?_
        obtain ⟨h1, hsh⟩ := g_if hsh
        refine v_st C (k := (k + 1)) (isM_lt hm (by decide)) (fun _ => ce_ma hm (by decide) (by decide)) (gin_in h1) dX1_blink_22 ?_
        obtain ⟨G2, e3, hsh⟩ := bng_e hsh
        refine v_bg e3 ?_
        refine v_aloadn C dX1_blink_23 rfl ?_
        refine f1_2 C hm dX1_blink_24 ?_
        refine v_iloadn C dX1_blink_27 rfl ?_
        refine v_aloadn C dX1_blink_28 rfl ?_
        refine f1_7 C hm dX1_blink_29 ?_
        refine v_iconst C dX1_blink_32 (v := 2) (by decide) ?_
        refine v_ld C (k := (k + 8)) (isM_lt hm (by decide)) (ce_m8 hm) (gin_in (by decide)) dX1_blink_33 ?_
        refine v_st C (k := (k + 3)) (isM_lt hm (by decide)) (fun _ => ce_ma hm (by decide) (by decide)) (gin_in h1) dX1_blink_34 ?_
        obtain ⟨G4, e5, hsh⟩ := bng_e hsh
        refine v_bg e5 ?_
        refine v_aloadn C dX1_blink_35 rfl ?_
        refine f1_4 C hm dX1_blink_36 ?_
        refine v_iloadn C dX1_blink_39 rfl ?_
        refine v_dup2 C dX1_blink_40 rfl rfl ?_
        refine v_ld C (k := (k + 5)) (isM_lt hm (by decide)) (ce_ma hm (by decide) (by decide)) (gin_in h1) dX1_blink_41 ?_
        refine v_iconst C dX1_blink_42 (v := 1) (by decide) ?_
        refine v_iadd C dX1_blink_43 ?_
        refine v_st C (k := (k + 5)) (isM_lt hm (by decide)) (fun _ => ce_ma hm (by decide) (by decide)) (gin_in h1) dX1_blink_44 ?_
        obtain ⟨G6, e7, hsh⟩ := bng_e hsh
        refine v_bg e7 ?_
        refine v_aloadn C dX1_blink_45 rfl ?_
        refine f1_5 C hm dX1_blink_46 ?_
        refine v_iloadn C dX1_blink_49 rfl ?_
        refine v_aloadn C dX1_blink_50 rfl ?_
        refine f1_10 C hm dX1_blink_51 ?_
        refine v_iconst C dX1_blink_54 (v := 1) (by decide) ?_
        refine v_iadd C dX1_blink_55 ?_
        refine v_st C (k := (k + 6)) (isM_lt hm (by decide)) (fun _ => ce_ma hm (by decide) (by decide)) (gin_in h1) dX1_blink_56 ?_
        obtain ⟨G8, e9, hsh⟩ := bng_e hsh
        refine v_bg e9 ?_
        refine v_iinc C dX1_blink_57 rfl (v := 1) (by decide) (by decide) ?_
        refine v_goto C 2 dX1_blink_60 (by decide) ?_
        exact v_wk (ih _ _ _ hsh) (wk_of (And.intro rfl (And.intro rfl (And.intro rfl trivial))))
set_option maxRecDepth 100000 in
set_option maxHeartbeats 4000000 in
theorem c_X1_blink (l : Launch) (D : va_G) (t : gT) (ad : Nat → Nat) (hI : gI ad) {k : Nat} (hm : isM k) {l1 : Int32} {G : gG} {G0 : gG} (hsh : sh_X1_blink k l1 G = some G0) : Mv l D t ad yX1_blink cX1_blink 3 (rM 1 21) [.ref (ad k), .int l1] G G0 := by
  refine m_go hI RX1 rfl (by decide +kernel) ⟨rfl, rfl⟩ (Nat.le_of_ble_eq_true rfl) rfl [some (.ref (ad k)), some (.int l1), none] rfl (fun p e s m args below meth c C => ?_)
  unfold sh_X1_blink at hsh
  refine v_iconst C dX1_blink_0 (v := 0) (by decide) ?_
  refine v_istoren C dX1_blink_1 (by decide) ?_
  refine v_wk (lp_X1_blink_2 C hI hm (fun G hsh => ?_) FU _ _ _ hsh) (wk_of (And.intro rfl (And.intro rfl (And.intro rfl trivial))))
  obtain rfl := so_1 hsh
  exact v_vret C dX1_blink_63
theorem yo_X1_blink : yOk yX1_blink 1 := ⟨by decide, by decide, by decide +kernel⟩

def sh_X1_pushAll_10 (k : Nat) (kt116 : Int32 → gG → Option (Int32 × gG)) : Nat → Int32 → Int32 → Int32 → Int32 → gG → Option (Int32 × gG)
  | 0, _, _, _, _, _ => none
  | n + 1, l1, l2, l3, l4, G => (if (16 : Int32) ≤ l4 then kt116 l3 G else (if (sh_X3_holds l1 l4) = (0 : Int32) then sh_X1_pushAll_10 k kt116 n l1 l2 l3 (l4 + 1) G else (if gin l4 16 = true then (if (G (k + 3) (l4).toNatClampNeg) = (0 : Int32) then (bni ((G (k + 1) (l4).toNatClampNeg) + (((G (k + 1) (l4).toNatClampNeg) * (G (k + 8) ((1 : Int32)).toNatClampNeg)) / (100 : Int32))) fun z4 => (bng (gu G (k + 1) (l4).toNatClampNeg (if l2 < z4 then l2 else z4)) fun G6 => (bng (gu G6 (k + 7) (l4).toNatClampNeg ((G6 (k + 7) (l4).toNatClampNeg) + (1 : Int32))) fun G8 => (bng (gu G8 k 12 ((G8 k 12) + (1 : Int32))) fun G10 => (if z4 < l2 then sh_X1_pushAll_10 k kt116 n l1 l2 l3 (l4 + 1) G10 else sh_X1_pushAll_10 k kt116 n l1 l2 (l3 ||| ((1 : Int32) <<< (l4 &&& 31))) (l4 + 1) G10))))) else sh_X1_pushAll_10 k kt116 n l1 l2 l3 (l4 + 1) G) else none)))
def sh_X1_pushAll (k : Nat) (l1 : Int32) (G : gG) : Option (Int32 × gG) := (obp (sh_X1_fullPhase k G) fun r2 => (sh_X1_pushAll_10 k (fun l3 G => some (l3, G)) FU l1 r2 (0 : Int32) (0 : Int32) G))
set_option maxRecDepth 100000 in
set_option maxHeartbeats 4000000 in
theorem lp_X1_pushAll_10 {p : Program} {l : Launch} {e : Env} {s : State} {m : MethodId} {args : Array Value} {below : List Frame} {meth : Method} {c : Code} {D : va_G} {t : gT} {ad : Nat → Nat} (C : gC p s m args meth c cX1_pushAll RX1 6 (some .int) (isW ad) D t ad) (hI : gI ad) {k : Nat} (hm : isM k) {r0 : Int32} {G0 : gG} {kt116 : Int32 → gG → Option (Int32 × gG)} (hk116 : ∀ (l3 : Int32) (G : gG) , kt116 l3 G = some (r0, G0) → V p l e (rM 1 21) s m args below meth c (isW ad) D t ad 0 0 6 (Qi below D t ad args s r0 G0) G 116 [none, none, none, some (.int l3), none, none] []) : ∀ (n : Nat) (l1 : Int32) (l2 : Int32) (l3 : Int32) (l4 : Int32) (G : gG) , sh_X1_pushAll_10 k kt116 n l1 l2 l3 l4 G = some (r0, G0) → V p l e (rM 1 21) s m args below meth c (isW ad) D t ad 0 0 6 (Qi below D t ad args s r0 G0) G 10 [some (.ref (ad k)), some (.int l1), some (.int l2), some (.int l3), some (.int l4), none] [] := by
  intro n
  induction n with
  | zero => intro l1 l2 l3 l4 G hsh; rw [sh_X1_pushAll_10.eq_1] at hsh; cases hsh
  | succ n ih =>
    intro l1 l2 l3 l4 G hsh
    rw [sh_X1_pushAll_10.eq_2] at hsh
    refine v_iload C dX1_pushAll_10 rfl ?_
    refine v_bipush C dX1_pushAll_12 (v := 16) (by decide) ?_
    refine v_ic_ge C 116 dX1_pushAll_14 (by decide) (fun hc => ?_) (fun hc => ?_)
    · replace hsh := ite_p hc hsh
      exact v_wk (hk116 _ _ hsh) (wk_of (And.intro rfl trivial))
    · replace hsh := ite_n hc hsh
      refine v_iloadn C dX1_pushAll_17 rfl ?_
      refine v_iload C dX1_pushAll_18 rfl ?_
      refine v_callN (nP := 2) C (c_X3_holds l D t ad hI  (G := G) rfl) k156 (gc_x C).2.2.2.2.1.2.2.2.2.2 k155 k1 yo_X3_holds ⟨Nat.le_of_ble_eq_true rfl, Nat.le_of_ble_eq_true rfl, rfl, rfl, Nat.zero_le _, Nat.zero_le _⟩ rfl rfl (Nat.le_of_ble_eq_true rfl) dX1_pushAll_20 ?_
      refine v_if_eq C 110 dX1_pushAll_23 (by decide) (fun hc => ?_) (fun hc => ?_)
      · replace hsh := ite_p hc hsh
        refine v_iinc C dX1_pushAll_110 rfl (v := 1) (by decide) (by decide) ?_
        refine v_goto C 10 dX1_pushAll_113 (by decide) ?_
        exact v_wk (ih _ _ _ _ _ hsh) (wk_of (And.intro rfl (And.intro rfl (And.intro rfl (And.intro rfl (And.intro rfl trivial))))))
      · replace hsh := ite_n hc hsh
        refine v_aloadn C dX1_pushAll_26 rfl ?_
        refine f1_2 C hm dX1_pushAll_27 ?_
        refine v_iload C dX1_pushAll_30 rfl ?_
        obtain ⟨h3, hsh⟩ := g_if hsh
        refine v_ld C (k := (k + 3)) (isM_lt hm (by decide)) (ce_ma hm (by decide) (by decide)) (gin_in h3) dX1_pushAll_32 ?_
        refine v_if_ne C 110 dX1_pushAll_33 (by decide) (fun hc => ?_) (fun hc => ?_)
        · replace hsh := ite_n hc hsh
          refine v_iinc C dX1_pushAll_110 rfl (v := 1) (by decide) (by decide) ?_
          refine v_goto C 10 dX1_pushAll_113 (by decide) ?_
          exact v_wk (ih _ _ _ _ _ hsh) (wk_of (And.intro rfl (And.intro rfl (And.intro rfl (And.intro rfl (And.intro rfl trivial))))))
        · replace hsh := ite_p hc hsh
          refine v_aloadn C dX1_pushAll_36 rfl ?_
          refine f1_0 C hm dX1_pushAll_37 ?_
          refine v_iload C dX1_pushAll_40 rfl ?_
          refine v_ld C (k := (k + 1)) (isM_lt hm (by decide)) (ce_ma hm (by decide) (by decide)) (gin_in h3) dX1_pushAll_42 ?_
          refine v_aloadn C dX1_pushAll_43 rfl ?_
          refine f1_0 C hm dX1_pushAll_44 ?_
          refine v_iload C dX1_pushAll_47 rfl ?_
          refine v_ld C (k := (k + 1)) (isM_lt hm (by decide)) (ce_ma hm (by decide) (by decide)) (gin_in h3) dX1_pushAll_49 ?_
          refine v_aloadn C dX1_pushAll_50 rfl ?_
          refine f1_7 C hm dX1_pushAll_51 ?_
          refine v_iconst C dX1_pushAll_54 (v := 1) (by decide) ?_
          refine v_ld C (k := (k + 8)) (isM_lt hm (by decide)) (ce_m8 hm) (gin_in (by decide)) dX1_pushAll_55 ?_
          refine v_imul C dX1_pushAll_56 ?_
          refine v_bipush C dX1_pushAll_57 (v := 100) (by decide) ?_
          refine v_idiv C dX1_pushAll_59 (by decide) ?_
          refine v_iadd C dX1_pushAll_60 ?_
          obtain ⟨z4, e5, hsh⟩ := bni_e hsh
          refine v_bi e5 ?_
          refine v_istore C dX1_pushAll_61 (by decide) ?_
          refine v_aloadn C dX1_pushAll_63 rfl ?_
          refine f1_0 C hm dX1_pushAll_64 ?_
          refine v_iload C dX1_pushAll_67 rfl ?_
          refine v_iload C dX1_pushAll_69 rfl ?_
          refine v_iloadn C dX1_pushAll_71 rfl ?_
          refine v_min C k216 k217 k5 k218 ⟨Nat.le_of_ble_eq_true rfl, Nat.le_of_ble_eq_true rfl, Nat.zero_le _, Nat.zero_le _⟩ (Nat.le_of_ble_eq_true rfl) dX1_pushAll_72 ?_
          refine v_st C (k := (k + 1)) (isM_lt hm (by decide)) (fun _ => ce_ma hm (by decide) (by decide)) (gin_in h3) dX1_pushAll_75 ?_
          obtain ⟨G6, e7, hsh⟩ := bng_e hsh
          refine v_bg e7 ?_
          refine v_aloadn C dX1_pushAll_76 rfl ?_
          refine f1_6 C hm dX1_pushAll_77 ?_
          refine v_iload C dX1_pushAll_80 rfl ?_
          refine v_dup2 C dX1_pushAll_82 rfl rfl ?_
          refine v_ld C (k := (k + 7)) (isM_lt hm (by decide)) (ce_ma hm (by decide) (by decide)) (gin_in h3) dX1_pushAll_83 ?_
          refine v_iconst C dX1_pushAll_84 (v := 1) (by decide) ?_
          refine v_iadd C dX1_pushAll_85 ?_
          refine v_st C (k := (k + 7)) (isM_lt hm (by decide)) (fun _ => ce_ma hm (by decide) (by decide)) (gin_in h3) dX1_pushAll_86 ?_
          obtain ⟨G8, e9, hsh⟩ := bng_e hsh
          refine v_bg e9 ?_
          refine v_aloadn C dX1_pushAll_87 rfl ?_
          refine v_dup C dX1_pushAll_88 rfl ?_
          refine f1_12 C hm dX1_pushAll_89 ?_
          refine v_iconst C dX1_pushAll_92 (v := 1) (by decide) ?_
          refine v_iadd C dX1_pushAll_93 ?_
          refine p1_12 C hm dX1_pushAll_94 ?_
          obtain ⟨G10, e11, hsh⟩ := bng_e hsh
          refine v_bg e11 ?_
          refine v_iload C dX1_pushAll_97 rfl ?_
          refine v_iloadn C dX1_pushAll_99 rfl ?_
          refine v_ic_lt C 110 dX1_pushAll_100 (by decide) (fun hc => ?_) (fun hc => ?_)
          · replace hsh := ite_p hc hsh
            refine v_iinc C dX1_pushAll_110 rfl (v := 1) (by decide) (by decide) ?_
            refine v_goto C 10 dX1_pushAll_113 (by decide) ?_
            exact v_wk (ih _ _ _ _ _ hsh) (wk_of (And.intro rfl (And.intro rfl (And.intro rfl (And.intro rfl (And.intro rfl trivial))))))
          · replace hsh := ite_n hc hsh
            refine v_iloadn C dX1_pushAll_103 rfl ?_
            refine v_iconst C dX1_pushAll_104 (v := 1) (by decide) ?_
            refine v_iload C dX1_pushAll_105 rfl ?_
            refine v_ishl C dX1_pushAll_107 ?_
            refine v_ior C dX1_pushAll_108 ?_
            refine v_istoren C dX1_pushAll_109 (by decide) ?_
            refine v_iinc C dX1_pushAll_110 rfl (v := 1) (by decide) (by decide) ?_
            refine v_goto C 10 dX1_pushAll_113 (by decide) ?_
            exact v_wk (ih _ _ _ _ _ hsh) (wk_of (And.intro rfl (And.intro rfl (And.intro rfl (And.intro rfl (And.intro rfl trivial))))))
set_option maxRecDepth 100000 in
set_option maxHeartbeats 4000000 in
theorem c_X1_pushAll (l : Launch) (D : va_G) (t : gT) (ad : Nat → Nat) (hI : gI ad) {k : Nat} (hm : isM k) {l1 : Int32} {G : gG} {r0 : Int32} {G0 : gG} (hsh : sh_X1_pushAll k l1 G = some (r0, G0)) : Mi l D t ad yX1_pushAll cX1_pushAll 6 (some .int) (rM 1 21) [.ref (ad k), .int l1] G r0 G0 := by
  refine m_go hI RX1 rfl (by decide +kernel) ⟨rfl, rfl⟩ (Nat.le_of_ble_eq_true rfl) rfl [some (.ref (ad k)), some (.int l1), none, none, none, none] rfl (fun p e s m args below meth c C => ?_)
  unfold sh_X1_pushAll at hsh
  refine v_aloadn C dX1_pushAll_0 rfl ?_
  obtain ⟨r2, e1, hsh⟩ := obp_e hsh
  refine v_callI (nP := 0) (k := k) C (isM_lt (f := 0) hm (by decide)) (ce_m hm) rfl (c_X1_fullPhase l D t ad hI hm e1) k203 k200 k202 kp2 k2 yo_X1_fullPhase ⟨Nat.le_of_ble_eq_true rfl, Nat.le_of_ble_eq_true rfl, rfl, rfl, Nat.zero_le _, Nat.zero_le _⟩ rfl rfl (Nat.le_of_ble_eq_true rfl) dX1_pushAll_1 ?_
  refine v_istoren C dX1_pushAll_4 (by decide) ?_
  refine v_iconst C dX1_pushAll_5 (v := 0) (by decide) ?_
  refine v_istoren C dX1_pushAll_6 (by decide) ?_
  refine v_iconst C dX1_pushAll_7 (v := 0) (by decide) ?_
  refine v_istore C dX1_pushAll_8 (by decide) ?_
  refine v_wk (lp_X1_pushAll_10 C hI hm (fun l3 G hsh => ?_) FU _ _ _ _ _ hsh) (wk_of (And.intro rfl (And.intro rfl (And.intro rfl (And.intro rfl (And.intro rfl trivial))))))
  refine v_iloadn C dX1_pushAll_116 rfl ?_
  obtain ⟨rfl, rfl⟩ := so_i hsh
  exact v_iret C dX1_pushAll_117
theorem yo_X1_pushAll : yOk yX1_pushAll 1 := ⟨by decide, by decide, by decide +kernel⟩

def sh_X1_pushFrom_5 (k : Nat) (kt43 : Int32 → gG → Option (Int32 × gG)) : Nat → Int32 → Int32 → Int32 → Int32 → gG → Option (Int32 × gG)
  | 0, _, _, _, _, _ => none
  | n + 1, l1, l2, l3, l4, G => (if (16 : Int32) ≤ l4 then kt43 l3 G else (if (sh_X3_holds l1 l4) = (0 : Int32) then sh_X1_pushFrom_5 k kt43 n l1 l2 l3 (l4 + 1) G else (if gin l4 16 = true then (obi (sh_X1_pushAll k ((G (k + 4) (l4).toNatClampNeg) &&& l2) G) fun r3 G4 => sh_X1_pushFrom_5 k kt43 n l1 l2 (l3 ||| r3) (l4 + 1) G4) else none)))
def sh_X1_pushFrom (k : Nat) (l1 : Int32) (l2 : Int32) (G : gG) : Option (Int32 × gG) := (sh_X1_pushFrom_5 k (fun l3 G => some (l3, G)) FU l1 l2 (0 : Int32) (0 : Int32) G)
set_option maxRecDepth 100000 in
set_option maxHeartbeats 4000000 in
theorem lp_X1_pushFrom_5 {p : Program} {l : Launch} {e : Env} {s : State} {m : MethodId} {args : Array Value} {below : List Frame} {meth : Method} {c : Code} {D : va_G} {t : gT} {ad : Nat → Nat} (C : gC p s m args meth c cX1_pushFrom RX1 5 (some .int) (isW ad) D t ad) (hI : gI ad) {k : Nat} (hm : isM k) {r0 : Int32} {G0 : gG} {kt43 : Int32 → gG → Option (Int32 × gG)} (hk43 : ∀ (l3 : Int32) (G : gG) , kt43 l3 G = some (r0, G0) → V p l e (rM 2 46) s m args below meth c (isW ad) D t ad 0 0 5 (Qi below D t ad args s r0 G0) G 43 [none, none, none, some (.int l3), none] []) : ∀ (n : Nat) (l1 : Int32) (l2 : Int32) (l3 : Int32) (l4 : Int32) (G : gG) , sh_X1_pushFrom_5 k kt43 n l1 l2 l3 l4 G = some (r0, G0) → V p l e (rM 2 46) s m args below meth c (isW ad) D t ad 0 0 5 (Qi below D t ad args s r0 G0) G 5 [some (.ref (ad k)), some (.int l1), some (.int l2), some (.int l3), some (.int l4)] [] := by
  intro n
  induction n with
  | zero => intro l1 l2 l3 l4 G hsh; rw [sh_X1_pushFrom_5.eq_1] at hsh; cases hsh
  | succ n ih =>
    intro l1 l2 l3 l4 G hsh
    rw [sh_X1_pushFrom_5.eq_2] at hsh
    refine v_iload C dX1_pushFrom_5 rfl ?_
    refine v_bipush C dX1_pushFrom_7 (v := 16) (by decide) ?_
    refine v_ic_ge C 43 dX1_pushFrom_9 (by decide) (fun hc => ?_) (fun hc => ?_)
    · replace hsh := ite_p hc hsh
      exact v_wk (hk43 _ _ hsh) (wk_of (And.intro rfl trivial))
    · replace hsh := ite_n hc hsh
      refine v_iloadn C dX1_pushFrom_12 rfl ?_
      refine v_iload C dX1_pushFrom_13 rfl ?_
      refine v_callN (nP := 2) C (c_X3_holds l D t ad hI  (G := G) rfl) k156 (gc_x C).2.2.2.2.1.2.2.2.2.2 k155 k1 yo_X3_holds ⟨Nat.le_of_ble_eq_true rfl, Nat.le_of_ble_eq_true rfl, rfl, rfl, Nat.zero_le _, Nat.zero_le _⟩ rfl rfl (Nat.le_of_ble_eq_true rfl) dX1_pushFrom_15 ?_
      refine v_if_eq C 37 dX1_pushFrom_18 (by decide) (fun hc => ?_) (fun hc => ?_)
      · replace hsh := ite_p hc hsh
        refine v_iinc C dX1_pushFrom_37 rfl (v := 1) (by decide) (by decide) ?_
        refine v_goto C 5 dX1_pushFrom_40 (by decide) ?_
        exact v_wk (ih _ _ _ _ _ hsh) (wk_of (And.intro rfl (And.intro rfl (And.intro rfl (And.intro rfl (And.intro rfl trivial))))))
      · replace hsh := ite_n hc hsh
        refine v_iloadn C dX1_pushFrom_21 rfl ?_
        refine v_aloadn C dX1_pushFrom_22 rfl ?_
        refine v_aloadn C dX1_pushFrom_23 rfl ?_
        refine f1_3 C hm dX1_pushFrom_24 ?_
        refine v_iload C dX1_pushFrom_27 rfl ?_
        obtain ⟨h1, hsh⟩ := g_if hsh
        refine v_ld C (k := (k + 4)) (isM_lt hm (by decide)) (ce_ma hm (by decide) (by decide)) (gin_in h1) dX1_pushFrom_29 ?_
        refine v_iloadn C dX1_pushFrom_30 rfl ?_
        refine v_iand C dX1_pushFrom_31 ?_
        obtain ⟨r3, G4, e2, hsh⟩ := obi_e hsh
        refine v_callI (nP := 1) (k := k) C (isM_lt (f := 0) hm (by decide)) (ce_m hm) rfl (c_X1_pushAll l D t ad hI hm e2) k215 k212 k214 kp5 k2 yo_X1_pushAll ⟨Nat.le_of_ble_eq_true rfl, Nat.le_of_ble_eq_true rfl, rfl, rfl, Nat.zero_le _, Nat.zero_le _⟩ rfl rfl (Nat.le_of_ble_eq_true rfl) dX1_pushFrom_32 ?_
        refine v_ior C dX1_pushFrom_35 ?_
        refine v_istoren C dX1_pushFrom_36 (by decide) ?_
        refine v_iinc C dX1_pushFrom_37 rfl (v := 1) (by decide) (by decide) ?_
        refine v_goto C 5 dX1_pushFrom_40 (by decide) ?_
        exact v_wk (ih _ _ _ _ _ hsh) (wk_of (And.intro rfl (And.intro rfl (And.intro rfl (And.intro rfl (And.intro rfl trivial))))))
set_option maxRecDepth 100000 in
set_option maxHeartbeats 4000000 in
theorem c_X1_pushFrom (l : Launch) (D : va_G) (t : gT) (ad : Nat → Nat) (hI : gI ad) {k : Nat} (hm : isM k) {l1 : Int32} {l2 : Int32} {G : gG} {r0 : Int32} {G0 : gG} (hsh : sh_X1_pushFrom k l1 l2 G = some (r0, G0)) : Mi l D t ad yX1_pushFrom cX1_pushFrom 5 (some .int) (rM 2 46) [.ref (ad k), .int l1, .int l2] G r0 G0 := by
  refine m_go hI RX1 rfl (by decide +kernel) ⟨rfl, rfl⟩ (Nat.le_of_ble_eq_true rfl) rfl [some (.ref (ad k)), some (.int l1), some (.int l2), none, none] rfl (fun p e s m args below meth c C => ?_)
  unfold sh_X1_pushFrom at hsh
  refine v_iconst C dX1_pushFrom_0 (v := 0) (by decide) ?_
  refine v_istoren C dX1_pushFrom_1 (by decide) ?_
  refine v_iconst C dX1_pushFrom_2 (v := 0) (by decide) ?_
  refine v_istore C dX1_pushFrom_3 (by decide) ?_
  refine v_wk (lp_X1_pushFrom_5 C hI hm (fun l3 G hsh => ?_) FU _ _ _ _ _ hsh) (wk_of (And.intro rfl (And.intro rfl (And.intro rfl (And.intro rfl (And.intro rfl trivial))))))
  refine v_iloadn C dX1_pushFrom_43 rfl ?_
  obtain ⟨rfl, rfl⟩ := so_i hsh
  exact v_iret C dX1_pushFrom_44
theorem yo_X1_pushFrom : yOk yX1_pushFrom 2 := ⟨by decide, by decide, by decide +kernel⟩

def sh_X1_account (k : Nat) (l1 : Int32) (G : gG) : Option (gG) := (bng (gu G k 11 ((G k 11) + l1)) fun G1 => (if l1 < (2 : Int32) then some G1 else (bng (gu G1 k 13 ((G1 k 13) + (1 : Int32))) fun G3 => (bng (gu G3 k 14 (if (G3 k 14) < l1 then l1 else (G3 k 14))) fun G5 => some G5))))
set_option maxRecDepth 100000 in
set_option maxHeartbeats 4000000 in
theorem c_X1_account (l : Launch) (D : va_G) (t : gT) (ad : Nat → Nat) (hI : gI ad) {k : Nat} (hm : isM k) {l1 : Int32} {G : gG} {G0 : gG} (hsh : sh_X1_account k l1 G = some G0) : Mv l D t ad yX1_account cX1_account 2 (rM 1 21) [.ref (ad k), .int l1] G G0 := by
  refine m_go hI RX1 rfl (by decide +kernel) ⟨rfl, rfl⟩ (Nat.le_of_ble_eq_true rfl) rfl [some (.ref (ad k)), some (.int l1)] rfl (fun p e s m args below meth c C => ?_)
  unfold sh_X1_account at hsh
  refine v_aloadn C dX1_account_0 rfl ?_
  refine v_dup C dX1_account_1 rfl ?_
  refine f1_11 C hm dX1_account_2 ?_
  refine v_iloadn C dX1_account_5 rfl ?_
  refine v_iadd C dX1_account_6 ?_
  refine p1_11 C hm dX1_account_7 ?_
  obtain ⟨G1, e2, hsh⟩ := bng_e hsh
  refine v_bg e2 ?_
  refine v_iloadn C dX1_account_10 rfl ?_
  refine v_iconst C dX1_account_11 (v := 2) (by decide) ?_
  refine v_ic_lt C 37 dX1_account_12 (by decide) (fun hc => ?_) (fun hc => ?_)
  · replace hsh := ite_p hc hsh
    obtain rfl := so_1 hsh
    exact v_vret C dX1_account_37
  · replace hsh := ite_n hc hsh
    refine v_aloadn C dX1_account_15 rfl ?_
    refine v_dup C dX1_account_16 rfl ?_
    refine f1_13 C hm dX1_account_17 ?_
    refine v_iconst C dX1_account_20 (v := 1) (by decide) ?_
    refine v_iadd C dX1_account_21 ?_
    refine p1_13 C hm dX1_account_22 ?_
    obtain ⟨G3, e4, hsh⟩ := bng_e hsh
    refine v_bg e4 ?_
    refine v_aloadn C dX1_account_25 rfl ?_
    refine v_aloadn C dX1_account_26 rfl ?_
    refine f1_14 C hm dX1_account_27 ?_
    refine v_iloadn C dX1_account_30 rfl ?_
    refine v_max C k223 k224 k5 k225 ⟨Nat.le_of_ble_eq_true rfl, Nat.le_of_ble_eq_true rfl, Nat.zero_le _, Nat.zero_le _⟩ (Nat.le_of_ble_eq_true rfl) dX1_account_31 ?_
    refine p1_14 C hm dX1_account_34 ?_
    obtain ⟨G5, e6, hsh⟩ := bng_e hsh
    refine v_bg e6 ?_
    obtain rfl := so_1 hsh
    exact v_vret C dX1_account_37
theorem yo_X1_account : yOk yX1_account 1 := ⟨by decide, by decide, by decide +kernel⟩

def sh_X1_tickOnce_9 (k : Nat) (kt48 : Int32 → gG → Option (Int32 × gG)) : Nat → Int32 → Int32 → Int32 → gG → Option (Int32 × gG)
  | 0, _, _, _, _ => none
  | n + 1, l1, l2, l3, G => (if (16 : Int32) ≤ l3 then kt48 l1 G else (if l2 = (0 : Int32) then kt48 l1 G else (obv (sh_X1_blink k l2 G) fun G5 => (obi (sh_X1_pushFrom k l2 ((G5 k 9) &&& ((l1 ||| l2) ^^^ (-1 : Int32))) G5) fun r7 G8 => sh_X1_tickOnce_9 k kt48 n (l1 ||| l2) r7 (l3 + 1) G8))))
def sh_X1_tickOnce_j48 (k : Nat) (l1 : Int32) (G : gG) : Option (Int32 × gG) := (bng (gu G k 10 ((G k 10) + (1 : Int32))) fun G9 => (obv (sh_X1_account k (sh_J6_bitCount_0f7a4 l1) G9) fun G12 => some (l1, G12)))
def sh_X1_tickOnce (k : Nat) (G : gG) : Option (Int32 × gG) := (obi (sh_X1_grow k G) fun r2 G3 => (sh_X1_tickOnce_9 k (fun l1 G => (sh_X1_tickOnce_j48 k l1 G)) FU (0 : Int32) r2 (0 : Int32) G3))
set_option maxRecDepth 100000 in
set_option maxHeartbeats 4000000 in
theorem lp_X1_tickOnce_9 {p : Program} {l : Launch} {e : Env} {s : State} {m : MethodId} {args : Array Value} {below : List Frame} {meth : Method} {c : Code} {D : va_G} {t : gT} {ad : Nat → Nat} (C : gC p s m args meth c cX1_tickOnce RX1 4 (some .int) (isW ad) D t ad) (hI : gI ad) {k : Nat} (hm : isM k) {r0 : Int32} {G0 : gG} {kt48 : Int32 → gG → Option (Int32 × gG)} (hk48 : ∀ (l1 : Int32) (G : gG) , kt48 l1 G = some (r0, G0) → V p l e (rM 3 70) s m args below meth c (isW ad) D t ad 0 0 4 (Qi below D t ad args s r0 G0) G 48 [some (.ref (ad k)), some (.int l1), none, none] []) : ∀ (n : Nat) (l1 : Int32) (l2 : Int32) (l3 : Int32) (G : gG) , sh_X1_tickOnce_9 k kt48 n l1 l2 l3 G = some (r0, G0) → V p l e (rM 3 70) s m args below meth c (isW ad) D t ad 0 0 4 (Qi below D t ad args s r0 G0) G 9 [some (.ref (ad k)), some (.int l1), some (.int l2), some (.int l3)] [] := by
  intro n
  induction n with
  | zero => intro l1 l2 l3 G hsh; rw [sh_X1_tickOnce_9.eq_1] at hsh; cases hsh
  | succ n ih =>
    intro l1 l2 l3 G hsh
    rw [sh_X1_tickOnce_9.eq_2] at hsh
    refine v_iloadn C dX1_tickOnce_9 rfl ?_
    refine v_bipush C dX1_tickOnce_10 (v := 16) (by decide) ?_
    refine v_ic_ge C 48 dX1_tickOnce_12 (by decide) (fun hc => ?_) (fun hc => ?_)
    · replace hsh := ite_p hc hsh
      exact v_wk (hk48 _ _ hsh) (wk_of (And.intro rfl (And.intro rfl trivial)))
    · replace hsh := ite_n hc hsh
      refine v_iloadn C dX1_tickOnce_15 rfl ?_
      refine v_if_eq C 48 dX1_tickOnce_16 (by decide) (fun hc => ?_) (fun hc => ?_)
      · replace hsh := ite_p hc hsh
        exact v_wk (hk48 _ _ hsh) (wk_of (And.intro rfl (And.intro rfl trivial)))
      · replace hsh := ite_n hc hsh
        refine v_iloadn C dX1_tickOnce_19 rfl ?_
        refine v_iloadn C dX1_tickOnce_20 rfl ?_
        refine v_ior C dX1_tickOnce_21 ?_
        refine v_istoren C dX1_tickOnce_22 (by decide) ?_
        refine v_aloadn C dX1_tickOnce_23 rfl ?_
        refine v_iloadn C dX1_tickOnce_24 rfl ?_
        obtain ⟨G5, e4, hsh⟩ := obv_e hsh
        refine v_callV (nP := 1) (k := k) C (isM_lt (f := 0) hm (by decide)) (ce_m hm) rfl (c_X1_blink l D t ad hI hm e4) k207 k204 k206 kp3 k2 yo_X1_blink ⟨Nat.le_of_ble_eq_true rfl, Nat.le_of_ble_eq_true rfl, rfl, rfl, Nat.zero_le _, Nat.zero_le _⟩ rfl rfl (Nat.le_of_ble_eq_true rfl) dX1_tickOnce_25 ?_
        refine v_aloadn C dX1_tickOnce_28 rfl ?_
        refine v_iloadn C dX1_tickOnce_29 rfl ?_
        refine v_aloadn C dX1_tickOnce_30 rfl ?_
        refine f1_9 C hm dX1_tickOnce_31 ?_
        refine v_iloadn C dX1_tickOnce_34 rfl ?_
        refine v_iconst C dX1_tickOnce_35 (v := -1) (by decide) ?_
        refine v_ixor C dX1_tickOnce_36 ?_
        refine v_iand C dX1_tickOnce_37 ?_
        obtain ⟨r7, G8, e6, hsh⟩ := obi_e hsh
        refine v_callI (nP := 2) (k := k) C (isM_lt (f := 0) hm (by decide)) (ce_m hm) rfl (c_X1_pushFrom l D t ad hI hm e6) k211 k208 k210 kp4 k2 yo_X1_pushFrom ⟨Nat.le_of_ble_eq_true rfl, Nat.le_of_ble_eq_true rfl, rfl, rfl, Nat.zero_le _, Nat.zero_le _⟩ rfl rfl (Nat.le_of_ble_eq_true rfl) dX1_tickOnce_38 ?_
        refine v_istoren C dX1_tickOnce_41 (by decide) ?_
        refine v_iinc C dX1_tickOnce_42 rfl (v := 1) (by decide) (by decide) ?_
        refine v_goto C 9 dX1_tickOnce_45 (by decide) ?_
        exact v_wk (ih _ _ _ _ hsh) (wk_of (And.intro rfl (And.intro rfl (And.intro rfl (And.intro rfl trivial)))))
set_option maxRecDepth 100000 in
set_option maxHeartbeats 4000000 in
theorem c_X1_tickOnce (l : Launch) (D : va_G) (t : gT) (ad : Nat → Nat) (hI : gI ad) {k : Nat} (hm : isM k) {G : gG} {r0 : Int32} {G0 : gG} (hsh : sh_X1_tickOnce k G = some (r0, G0)) : Mi l D t ad yX1_tickOnce cX1_tickOnce 4 (some .int) (rM 3 70) [.ref (ad k)] G r0 G0 := by
  refine m_go hI RX1 rfl (by decide +kernel) ⟨rfl, rfl⟩ (Nat.le_of_ble_eq_true rfl) rfl [some (.ref (ad k)), none, none, none] rfl (fun p e s m args below meth c C => ?_)
  unfold sh_X1_tickOnce at hsh
  have hj48 : ∀ (l1 : Int32) (G : gG) , sh_X1_tickOnce_j48 k l1 G = some (r0, G0) → V p l e (rM 3 70) s m args below meth c (isW ad) D t ad 0 0 4 (Qi below D t ad args s r0 G0) G 48 [some (.ref (ad k)), some (.int l1), none, none] [] := by
    intro l1 G hsh
    unfold sh_X1_tickOnce_j48 at hsh
    refine v_aloadn C dX1_tickOnce_48 rfl ?_
    refine v_dup C dX1_tickOnce_49 rfl ?_
    refine f1_10 C hm dX1_tickOnce_50 ?_
    refine v_iconst C dX1_tickOnce_53 (v := 1) (by decide) ?_
    refine v_iadd C dX1_tickOnce_54 ?_
    refine p1_10 C hm dX1_tickOnce_55 ?_
    obtain ⟨G9, e10, hsh⟩ := bng_e hsh
    refine v_bg e10 ?_
    refine v_aloadn C dX1_tickOnce_58 rfl ?_
    refine v_iloadn C dX1_tickOnce_59 rfl ?_
    refine v_callS (nP := 1) C (c_J6_bitCount_0f7a4 l D t ad hI  (G := G9) rfl) k150 k148 k149 k6 yo_J6_bitCount_0f7a4 ⟨Nat.le_of_ble_eq_true rfl, Nat.le_of_ble_eq_true rfl, rfl, rfl, Nat.zero_le _, Nat.zero_le _⟩ rfl rfl (Nat.le_of_ble_eq_true rfl) dX1_tickOnce_60 ?_
    obtain ⟨G12, e11, hsh⟩ := obv_e hsh
    refine v_callV (nP := 1) (k := k) C (isM_lt (f := 0) hm (by decide)) (ce_m hm) rfl (c_X1_account l D t ad hI hm e11) k222 k219 k221 kp6 k2 yo_X1_account ⟨Nat.le_of_ble_eq_true rfl, Nat.le_of_ble_eq_true rfl, rfl, rfl, Nat.zero_le _, Nat.zero_le _⟩ rfl rfl (Nat.le_of_ble_eq_true rfl) dX1_tickOnce_63 ?_
    refine v_iloadn C dX1_tickOnce_66 rfl ?_
    obtain ⟨rfl, rfl⟩ := so_i hsh
    exact v_iret C dX1_tickOnce_67
  refine v_iconst C dX1_tickOnce_0 (v := 0) (by decide) ?_
  refine v_istoren C dX1_tickOnce_1 (by decide) ?_
  refine v_aloadn C dX1_tickOnce_2 rfl ?_
  obtain ⟨r2, G3, e1, hsh⟩ := obi_e hsh
  refine v_callI (nP := 0) (k := k) C (isM_lt (f := 0) hm (by decide)) (ce_m hm) rfl (c_X1_grow l D t ad hI hm e1) k199 k196 k198 kp1 k2 yo_X1_grow ⟨Nat.le_of_ble_eq_true rfl, Nat.le_of_ble_eq_true rfl, rfl, rfl, Nat.zero_le _, Nat.zero_le _⟩ rfl rfl (Nat.le_of_ble_eq_true rfl) dX1_tickOnce_3 ?_
  refine v_istoren C dX1_tickOnce_6 (by decide) ?_
  refine v_iconst C dX1_tickOnce_7 (v := 0) (by decide) ?_
  refine v_istoren C dX1_tickOnce_8 (by decide) ?_
  refine v_wk (lp_X1_tickOnce_9 C hI hm (fun l1 G hsh => ?_) FU _ _ _ _ hsh) (wk_of (And.intro rfl (And.intro rfl (And.intro rfl (And.intro rfl trivial)))))
  exact v_wk (hj48 _ _ hsh) (wk_of (And.intro rfl (And.intro rfl trivial)))
theorem yo_X1_tickOnce : yOk yX1_tickOnce 0 := ⟨by decide, by decide, by decide +kernel⟩

def sh_X1_tickOften_2 (k : Nat) (kt18 : gG → Option (gG)) : Nat → Int32 → Int32 → gG → Option (gG)
  | 0, _, _, _ => none
  | n + 1, l1, l2, G => (if l1 ≤ l2 then kt18  G else (obi (sh_X1_tickOnce k G) fun r2 G3 => sh_X1_tickOften_2 k kt18 n l1 (l2 + 1) G3))
def sh_X1_tickOften (k : Nat) (l1 : Int32) (G : gG) : Option (gG) := (sh_X1_tickOften_2 k (fun G => some G) FU l1 (0 : Int32) G)
set_option maxRecDepth 100000 in
set_option maxHeartbeats 4000000 in
theorem lp_X1_tickOften_2 {p : Program} {l : Launch} {e : Env} {s : State} {m : MethodId} {args : Array Value} {below : List Frame} {meth : Method} {c : Code} {D : va_G} {t : gT} {ad : Nat → Nat} (C : gC p s m args meth c cX1_tickOften RX1 3 none (isW ad) D t ad) (hI : gI ad) {k : Nat} (hm : isM k) {G0 : gG} {kt18 : gG → Option (gG)} (hk18 : ∀ (G : gG) , kt18 G = some G0 → V p l e (rM 4 93) s m args below meth c (isW ad) D t ad 0 0 3 (Qv below D t ad args s G0) G 18 [none, none, none] []) : ∀ (n : Nat) (l1 : Int32) (l2 : Int32) (G : gG) , sh_X1_tickOften_2 k kt18 n l1 l2 G = some G0 → V p l e (rM 4 93) s m args below meth c (isW ad) D t ad 0 0 3 (Qv below D t ad args s G0) G 2 [some (.ref (ad k)), some (.int l1), some (.int l2)] [] := by
  intro n
  induction n with
  | zero => intro l1 l2 G hsh; rw [sh_X1_tickOften_2.eq_1] at hsh; cases hsh
  | succ n ih =>
    intro l1 l2 G hsh
    rw [sh_X1_tickOften_2.eq_2] at hsh
    refine v_iloadn C dX1_tickOften_2 rfl ?_
    refine v_iloadn C dX1_tickOften_3 rfl ?_
    refine v_ic_ge C 18 dX1_tickOften_4 (by decide) (fun hc => ?_) (fun hc => ?_)
    · replace hsh := ite_p hc hsh
      exact v_wk (hk18  _ hsh) (wk_of trivial)
    · replace hsh := ite_n hc hsh
      refine v_aloadn C dX1_tickOften_7 rfl ?_
      obtain ⟨r2, G3, e1, hsh⟩ := obi_e hsh
      refine v_callI (nP := 0) (k := k) C (isM_lt (f := 0) hm (by decide)) (ce_m hm) rfl (c_X1_tickOnce l D t ad hI hm e1) k195 k192 k193 k194 k2 yo_X1_tickOnce ⟨Nat.le_of_ble_eq_true rfl, Nat.le_of_ble_eq_true rfl, rfl, rfl, Nat.zero_le _, Nat.zero_le _⟩ rfl rfl (Nat.le_of_ble_eq_true rfl) dX1_tickOften_8 ?_
      refine v_pop C dX1_tickOften_11 rfl ?_
      refine v_iinc C dX1_tickOften_12 rfl (v := 1) (by decide) (by decide) ?_
      refine v_goto C 2 dX1_tickOften_15 (by decide) ?_
      exact v_wk (ih _ _ _ hsh) (wk_of (And.intro rfl (And.intro rfl (And.intro rfl trivial))))
set_option maxRecDepth 100000 in
set_option maxHeartbeats 4000000 in
theorem c_X1_tickOften (l : Launch) (D : va_G) (t : gT) (ad : Nat → Nat) (hI : gI ad) {k : Nat} (hm : isM k) {l1 : Int32} {G : gG} {G0 : gG} (hsh : sh_X1_tickOften k l1 G = some G0) : Mv l D t ad yX1_tickOften cX1_tickOften 3 (rM 4 93) [.ref (ad k), .int l1] G G0 := by
  refine m_go hI RX1 rfl (by decide +kernel) ⟨rfl, rfl⟩ (Nat.le_of_ble_eq_true rfl) rfl [some (.ref (ad k)), some (.int l1), none] rfl (fun p e s m args below meth c C => ?_)
  unfold sh_X1_tickOften at hsh
  refine v_iconst C dX1_tickOften_0 (v := 0) (by decide) ?_
  refine v_istoren C dX1_tickOften_1 (by decide) ?_
  refine v_wk (lp_X1_tickOften_2 C hI hm (fun G hsh => ?_) FU _ _ _ hsh) (wk_of (And.intro rfl (And.intro rfl (And.intro rfl trivial))))
  obtain rfl := so_1 hsh
  exact v_vret C dX1_tickOften_18
theorem yo_X1_tickOften : yOk yX1_tickOften 1 := ⟨by decide, by decide, by decide +kernel⟩

def sh_X1_distance (k : Nat) (l1 : Int32) (l2 : Int32) (G : gG) : Option (Int32) := (if gin l1 16 = true then (if gin l2 16 = true then (bni (if (0 : Int32) ≤ ((G (k + 1) (l1).toNatClampNeg) - (G (k + 1) (l2).toNatClampNeg)) then ((G (k + 1) (l1).toNatClampNeg) - (G (k + 1) (l2).toNatClampNeg)) else 0 - ((G (k + 1) (l1).toNatClampNeg) - (G (k + 1) (l2).toNatClampNeg))) fun z3 => (obp (sh_X1_fullPhase k G) fun r6 => some (if (r6 - z3) < z3 then (r6 - z3) else z3))) else none) else none)
set_option maxRecDepth 100000 in
set_option maxHeartbeats 4000000 in
theorem c_X1_distance (l : Launch) (D : va_G) (t : gT) (ad : Nat → Nat) (hI : gI ad) {k : Nat} (hm : isM k) {l1 : Int32} {l2 : Int32} {G : gG} {r0 : Int32} (hsh : sh_X1_distance k l1 l2 G = some r0) : Mi l D t ad yX1_distance cX1_distance 4 (some .int) (rM 1 21) [.ref (ad k), .int l1, .int l2] G r0 G := by
  refine m_go hI RX1 rfl (by decide +kernel) ⟨rfl, rfl⟩ (Nat.le_of_ble_eq_true rfl) rfl [some (.ref (ad k)), some (.int l1), some (.int l2), none] rfl (fun p e s m args below meth c C => ?_)
  unfold sh_X1_distance at hsh
  refine v_aloadn C dX1_distance_0 rfl ?_
  refine f1_0 C hm dX1_distance_1 ?_
  refine v_iloadn C dX1_distance_4 rfl ?_
  obtain ⟨h1, hsh⟩ := g_if hsh
  refine v_ld C (k := (k + 1)) (isM_lt hm (by decide)) (ce_ma hm (by decide) (by decide)) (gin_in h1) dX1_distance_5 ?_
  refine v_aloadn C dX1_distance_6 rfl ?_
  refine f1_0 C hm dX1_distance_7 ?_
  refine v_iloadn C dX1_distance_10 rfl ?_
  obtain ⟨h2, hsh⟩ := g_if hsh
  refine v_ld C (k := (k + 1)) (isM_lt hm (by decide)) (ce_ma hm (by decide) (by decide)) (gin_in h2) dX1_distance_11 ?_
  refine v_isub C dX1_distance_12 ?_
  refine v_abs C k234 k235 k5 k236 ⟨Nat.le_of_ble_eq_true rfl, Nat.le_of_ble_eq_true rfl, Nat.zero_le _, Nat.zero_le _⟩ (Nat.le_of_ble_eq_true rfl) dX1_distance_13 ?_
  obtain ⟨z3, e4, hsh⟩ := bni_e hsh
  refine v_bi e4 ?_
  refine v_istoren C dX1_distance_16 (by decide) ?_
  refine v_iloadn C dX1_distance_17 rfl ?_
  refine v_aloadn C dX1_distance_18 rfl ?_
  obtain ⟨r6, e5, hsh⟩ := obp_e hsh
  refine v_callI (nP := 0) (k := k) C (isM_lt (f := 0) hm (by decide)) (ce_m hm) rfl (c_X1_fullPhase l D t ad hI hm e5) k203 k200 k202 kp2 k2 yo_X1_fullPhase ⟨Nat.le_of_ble_eq_true rfl, Nat.le_of_ble_eq_true rfl, rfl, rfl, Nat.zero_le _, Nat.zero_le _⟩ rfl rfl (Nat.le_of_ble_eq_true rfl) dX1_distance_19 ?_
  refine v_iloadn C dX1_distance_22 rfl ?_
  refine v_isub C dX1_distance_23 ?_
  refine v_min C k216 k217 k5 k218 ⟨Nat.le_of_ble_eq_true rfl, Nat.le_of_ble_eq_true rfl, Nat.zero_le _, Nat.zero_le _⟩ (Nat.le_of_ble_eq_true rfl) dX1_distance_24 ?_
  obtain rfl := so_1 hsh
  exact v_iret C dX1_distance_27
theorem yo_X1_distance : yOk yX1_distance 2 := ⟨by decide, by decide, by decide +kernel⟩

def sh_X1_greatestDistance_14 (k : Nat) (G : gG) (kt53 : Int32 → Int32 → Option (Int32)) : Nat → Int32 → Int32 → Int32 → Option (Int32)
  | 0, _, _, _ => none
  | n + 1, l1, l2, l3 => (if (16 : Int32) ≤ l3 then kt53 l1 l2 else (if (sh_X1_isOn k l2 G) = (0 : Int32) then sh_X1_greatestDistance_14 k G kt53 n l1 l2 (l3 + 1) else (if (sh_X1_isOn k l3 G) = (0 : Int32) then sh_X1_greatestDistance_14 k G kt53 n l1 l2 (l3 + 1) else (obp (sh_X1_distance k l2 l3 G) fun r2 => sh_X1_greatestDistance_14 k G kt53 n (if l1 < r2 then r2 else l1) l2 (l3 + 1)))))
def sh_X1_greatestDistance_4 (k : Nat) (G : gG) (kt59 : Int32 → Option (Int32)) : Nat → Int32 → Int32 → Option (Int32)
  | 0, _, _ => none
  | n + 1, l1, l2 => (if (16 : Int32) ≤ l2 then kt59 l1 else (sh_X1_greatestDistance_14 k G (fun l1 l2 => sh_X1_greatestDistance_4 k G kt59 n l1 (l2 + 1)) FU l1 l2 (l2 + (1 : Int32))))
def sh_X1_greatestDistance (k : Nat) (G : gG) : Option (Int32) := (sh_X1_greatestDistance_4 k G (fun l1 => some l1) FU (0 : Int32) (0 : Int32))
set_option maxRecDepth 100000 in
set_option maxHeartbeats 4000000 in
theorem lp_X1_greatestDistance_14 {p : Program} {l : Launch} {e : Env} {s : State} {m : MethodId} {args : Array Value} {below : List Frame} {meth : Method} {c : Code} {D : va_G} {t : gT} {ad : Nat → Nat} (C : gC p s m args meth c cX1_greatestDistance RX1 4 (some .int) (isW ad) D t ad) (hI : gI ad) {k : Nat} (hm : isM k) {G : gG} {r0 : Int32} {kt53 : Int32 → Int32 → Option (Int32)} (hk53 : ∀ (l1 : Int32) (l2 : Int32) , kt53 l1 l2 = some r0 → V p l e (rM 2 44) s m args below meth c (isW ad) D t ad 0 0 4 (Qi below D t ad args s r0 G) G 53 [some (.ref (ad k)), some (.int l1), some (.int l2), none] []) : ∀ (n : Nat) (l1 : Int32) (l2 : Int32) (l3 : Int32) , sh_X1_greatestDistance_14 k G kt53 n l1 l2 l3 = some r0 → V p l e (rM 2 44) s m args below meth c (isW ad) D t ad 0 0 4 (Qi below D t ad args s r0 G) G 14 [some (.ref (ad k)), some (.int l1), some (.int l2), some (.int l3)] [] := by
  intro n
  induction n with
  | zero => intro l1 l2 l3 hsh; rw [sh_X1_greatestDistance_14.eq_1] at hsh; cases hsh
  | succ n ih =>
    intro l1 l2 l3 hsh
    rw [sh_X1_greatestDistance_14.eq_2] at hsh
    refine v_iloadn C dX1_greatestDistance_14 rfl ?_
    refine v_bipush C dX1_greatestDistance_15 (v := 16) (by decide) ?_
    refine v_ic_ge C 53 dX1_greatestDistance_17 (by decide) (fun hc => ?_) (fun hc => ?_)
    · replace hsh := ite_p hc hsh
      exact v_wk (hk53 _ _ hsh) (wk_of (And.intro rfl (And.intro rfl (And.intro rfl trivial))))
    · replace hsh := ite_n hc hsh
      refine v_aloadn C dX1_greatestDistance_20 rfl ?_
      refine v_iloadn C dX1_greatestDistance_21 rfl ?_
      refine v_callI (nP := 1) (k := k) C (isM_lt (f := 0) hm (by decide)) (ce_m hm) rfl (c_X1_isOn l D t ad hI hm rfl) k168 k165 k166 k167 k2 yo_X1_isOn ⟨Nat.le_of_ble_eq_true rfl, Nat.le_of_ble_eq_true rfl, rfl, rfl, Nat.zero_le _, Nat.zero_le _⟩ rfl rfl (Nat.le_of_ble_eq_true rfl) dX1_greatestDistance_22 ?_
      refine v_if_eq C 47 dX1_greatestDistance_25 (by decide) (fun hc => ?_) (fun hc => ?_)
      · replace hsh := ite_p hc hsh
        refine v_iinc C dX1_greatestDistance_47 rfl (v := 1) (by decide) (by decide) ?_
        refine v_goto C 14 dX1_greatestDistance_50 (by decide) ?_
        exact v_wk (ih _ _ _ hsh) (wk_of (And.intro rfl (And.intro rfl (And.intro rfl (And.intro rfl trivial)))))
      · replace hsh := ite_n hc hsh
        refine v_aloadn C dX1_greatestDistance_28 rfl ?_
        refine v_iloadn C dX1_greatestDistance_29 rfl ?_
        refine v_callI (nP := 1) (k := k) C (isM_lt (f := 0) hm (by decide)) (ce_m hm) rfl (c_X1_isOn l D t ad hI hm rfl) k168 k165 k166 k167 k2 yo_X1_isOn ⟨Nat.le_of_ble_eq_true rfl, Nat.le_of_ble_eq_true rfl, rfl, rfl, Nat.zero_le _, Nat.zero_le _⟩ rfl rfl (Nat.le_of_ble_eq_true rfl) dX1_greatestDistance_30 ?_
        refine v_if_eq C 47 dX1_greatestDistance_33 (by decide) (fun hc => ?_) (fun hc => ?_)
        · replace hsh := ite_p hc hsh
          refine v_iinc C dX1_greatestDistance_47 rfl (v := 1) (by decide) (by decide) ?_
          refine v_goto C 14 dX1_greatestDistance_50 (by decide) ?_
          exact v_wk (ih _ _ _ hsh) (wk_of (And.intro rfl (And.intro rfl (And.intro rfl (And.intro rfl trivial)))))
        · replace hsh := ite_n hc hsh
          refine v_iloadn C dX1_greatestDistance_36 rfl ?_
          refine v_aloadn C dX1_greatestDistance_37 rfl ?_
          refine v_iloadn C dX1_greatestDistance_38 rfl ?_
          refine v_iloadn C dX1_greatestDistance_39 rfl ?_
          obtain ⟨r2, e1, hsh⟩ := obp_e hsh
          refine v_callI (nP := 2) (k := k) C (isM_lt (f := 0) hm (by decide)) (ce_m hm) rfl (c_X1_distance l D t ad hI hm e1) k233 k230 k231 k232 k2 yo_X1_distance ⟨Nat.le_of_ble_eq_true rfl, Nat.le_of_ble_eq_true rfl, rfl, rfl, Nat.zero_le _, Nat.zero_le _⟩ rfl rfl (Nat.le_of_ble_eq_true rfl) dX1_greatestDistance_40 ?_
          refine v_max C k223 k224 k5 k225 ⟨Nat.le_of_ble_eq_true rfl, Nat.le_of_ble_eq_true rfl, Nat.zero_le _, Nat.zero_le _⟩ (Nat.le_of_ble_eq_true rfl) dX1_greatestDistance_43 ?_
          refine v_istoren C dX1_greatestDistance_46 (by decide) ?_
          refine v_iinc C dX1_greatestDistance_47 rfl (v := 1) (by decide) (by decide) ?_
          refine v_goto C 14 dX1_greatestDistance_50 (by decide) ?_
          exact v_wk (ih _ _ _ hsh) (wk_of (And.intro rfl (And.intro rfl (And.intro rfl (And.intro rfl trivial)))))
set_option maxRecDepth 100000 in
set_option maxHeartbeats 4000000 in
theorem lp_X1_greatestDistance_4 {p : Program} {l : Launch} {e : Env} {s : State} {m : MethodId} {args : Array Value} {below : List Frame} {meth : Method} {c : Code} {D : va_G} {t : gT} {ad : Nat → Nat} (C : gC p s m args meth c cX1_greatestDistance RX1 4 (some .int) (isW ad) D t ad) (hI : gI ad) {k : Nat} (hm : isM k) {G : gG} {r0 : Int32} {kt59 : Int32 → Option (Int32)} (hk59 : ∀ (l1 : Int32) , kt59 l1 = some r0 → V p l e (rM 2 44) s m args below meth c (isW ad) D t ad 0 0 4 (Qi below D t ad args s r0 G) G 59 [none, some (.int l1), none, none] []) : ∀ (n : Nat) (l1 : Int32) (l2 : Int32) , sh_X1_greatestDistance_4 k G kt59 n l1 l2 = some r0 → V p l e (rM 2 44) s m args below meth c (isW ad) D t ad 0 0 4 (Qi below D t ad args s r0 G) G 4 [some (.ref (ad k)), some (.int l1), some (.int l2), none] [] := by
  intro n
  induction n with
  | zero => intro l1 l2 hsh; rw [sh_X1_greatestDistance_4.eq_1] at hsh; cases hsh
  | succ n ih =>
    intro l1 l2 hsh
    rw [sh_X1_greatestDistance_4.eq_2] at hsh
    refine v_iloadn C dX1_greatestDistance_4 rfl ?_
    refine v_bipush C dX1_greatestDistance_5 (v := 16) (by decide) ?_
    refine v_ic_ge C 59 dX1_greatestDistance_7 (by decide) (fun hc => ?_) (fun hc => ?_)
    · replace hsh := ite_p hc hsh
      exact v_wk (hk59 _ hsh) (wk_of (And.intro rfl trivial))
    · replace hsh := ite_n hc hsh
      refine v_iloadn C dX1_greatestDistance_10 rfl ?_
      refine v_iconst C dX1_greatestDistance_11 (v := 1) (by decide) ?_
      refine v_iadd C dX1_greatestDistance_12 ?_
      refine v_istoren C dX1_greatestDistance_13 (by decide) ?_
      refine v_wk (lp_X1_greatestDistance_14 C hI hm (fun l1 l2 hsh => ?_) FU _ _ _ hsh) (wk_of (And.intro rfl (And.intro rfl (And.intro rfl (And.intro rfl trivial)))))
      refine v_iinc C dX1_greatestDistance_53 rfl (v := 1) (by decide) (by decide) ?_
      refine v_goto C 4 dX1_greatestDistance_56 (by decide) ?_
      exact v_wk (ih _ _ hsh) (wk_of (And.intro rfl (And.intro rfl (And.intro rfl trivial))))
set_option maxRecDepth 100000 in
set_option maxHeartbeats 4000000 in
theorem c_X1_greatestDistance (l : Launch) (D : va_G) (t : gT) (ad : Nat → Nat) (hI : gI ad) {k : Nat} (hm : isM k) {G : gG} {r0 : Int32} (hsh : sh_X1_greatestDistance k G = some r0) : Mi l D t ad yX1_greatestDistance cX1_greatestDistance 4 (some .int) (rM 2 44) [.ref (ad k)] G r0 G := by
  refine m_go hI RX1 rfl (by decide +kernel) ⟨rfl, rfl⟩ (Nat.le_of_ble_eq_true rfl) rfl [some (.ref (ad k)), none, none, none] rfl (fun p e s m args below meth c C => ?_)
  unfold sh_X1_greatestDistance at hsh
  refine v_iconst C dX1_greatestDistance_0 (v := 0) (by decide) ?_
  refine v_istoren C dX1_greatestDistance_1 (by decide) ?_
  refine v_iconst C dX1_greatestDistance_2 (v := 0) (by decide) ?_
  refine v_istoren C dX1_greatestDistance_3 (by decide) ?_
  refine v_wk (lp_X1_greatestDistance_4 C hI hm (fun l1 hsh => ?_) FU _ _ hsh) (wk_of (And.intro rfl (And.intro rfl (And.intro rfl trivial))))
  refine v_iloadn C dX1_greatestDistance_59 rfl ?_
  obtain rfl := so_1 hsh
  exact v_iret C dX1_greatestDistance_60
theorem yo_X1_greatestDistance : yOk yX1_greatestDistance 0 := ⟨by decide, by decide, by decide +kernel⟩

def sh_X1_isTogether_4 (k : Nat) (G : gG) (kt54 : Option (Int32)) : Nat → Int32 → Int32 → Option (Int32)
  | 0, _, _ => none
  | n + 1, l1, l2 => (if (16 : Int32) ≤ l2 then kt54 else (if (sh_X3_holds (G k 9) l2) = (0 : Int32) then sh_X1_isTogether_4 k G kt54 n l1 (l2 + 1) else (if l1 = (-1 : Int32) then sh_X1_isTogether_4 k G kt54 n l2 (l2 + 1) else (if gin l2 16 = true then (if gin l1 16 = true then (if (G (k + 1) (l2).toNatClampNeg) = (G (k + 1) (l1).toNatClampNeg) then sh_X1_isTogether_4 k G kt54 n l1 (l2 + 1) else some (0 : Int32)) else none) else none))))
def sh_X1_isTogether (k : Nat) (G : gG) : Option (Int32) := (sh_X1_isTogether_4 k G ((if (G k 9) = (0 : Int32) then some (0 : Int32) else some (1 : Int32))) FU (-1 : Int32) (0 : Int32))
set_option maxRecDepth 100000 in
set_option maxHeartbeats 4000000 in
theorem lp_X1_isTogether_4 {p : Program} {l : Launch} {e : Env} {s : State} {m : MethodId} {args : Array Value} {below : List Frame} {meth : Method} {c : Code} {D : va_G} {t : gT} {ad : Nat → Nat} (C : gC p s m args meth c cX1_isTogether RX1 3 (some .boolean) (isW ad) D t ad) (hI : gI ad) {k : Nat} (hm : isM k) {G : gG} {r0 : Int32} {kt54 : Option (Int32)} (hk54 : kt54 = some r0 → V p l e (rM 1 21) s m args below meth c (isW ad) D t ad 0 0 3 (Qi below D t ad args s r0 G) G 54 [some (.ref (ad k)), none, none] []) : ∀ (n : Nat) (l1 : Int32) (l2 : Int32) , sh_X1_isTogether_4 k G kt54 n l1 l2 = some r0 → V p l e (rM 1 21) s m args below meth c (isW ad) D t ad 0 0 3 (Qi below D t ad args s r0 G) G 4 [some (.ref (ad k)), some (.int l1), some (.int l2)] [] := by
  intro n
  induction n with
  | zero => intro l1 l2 hsh; rw [sh_X1_isTogether_4.eq_1] at hsh; cases hsh
  | succ n ih =>
    intro l1 l2 hsh
    rw [sh_X1_isTogether_4.eq_2] at hsh
    refine v_iloadn C dX1_isTogether_4 rfl ?_
    refine v_bipush C dX1_isTogether_5 (v := 16) (by decide) ?_
    refine v_ic_ge C 54 dX1_isTogether_7 (by decide) (fun hc => ?_) (fun hc => ?_)
    · replace hsh := ite_p hc hsh
      exact v_wk (hk54  hsh) (wk_of (And.intro rfl trivial))
    · replace hsh := ite_n hc hsh
      refine v_aloadn C dX1_isTogether_10 rfl ?_
      refine f1_9 C hm dX1_isTogether_11 ?_
      refine v_iloadn C dX1_isTogether_14 rfl ?_
      refine v_callN (nP := 2) C (c_X3_holds l D t ad hI  (G := G) rfl) k156 (gc_x C).2.2.2.2.1.2.2.2.2.2 k155 k1 yo_X3_holds ⟨Nat.le_of_ble_eq_true rfl, Nat.le_of_ble_eq_true rfl, rfl, rfl, Nat.zero_le _, Nat.zero_le _⟩ rfl rfl (Nat.le_of_ble_eq_true rfl) dX1_isTogether_15 ?_
      refine v_if_eq C 48 dX1_isTogether_18 (by decide) (fun hc => ?_) (fun hc => ?_)
      · replace hsh := ite_p hc hsh
        refine v_iinc C dX1_isTogether_48 rfl (v := 1) (by decide) (by decide) ?_
        refine v_goto C 4 dX1_isTogether_51 (by decide) ?_
        exact v_wk (ih _ _ hsh) (wk_of (And.intro rfl (And.intro rfl (And.intro rfl trivial))))
      · replace hsh := ite_n hc hsh
        refine v_iloadn C dX1_isTogether_21 rfl ?_
        refine v_iconst C dX1_isTogether_22 (v := -1) (by decide) ?_
        refine v_ic_ne C 31 dX1_isTogether_23 (by decide) (fun hc => ?_) (fun hc => ?_)
        · replace hsh := ite_n hc hsh
          refine v_aloadn C dX1_isTogether_31 rfl ?_
          refine f1_0 C hm dX1_isTogether_32 ?_
          refine v_iloadn C dX1_isTogether_35 rfl ?_
          obtain ⟨h1, hsh⟩ := g_if hsh
          refine v_ld C (k := (k + 1)) (isM_lt hm (by decide)) (ce_ma hm (by decide) (by decide)) (gin_in h1) dX1_isTogether_36 ?_
          refine v_aloadn C dX1_isTogether_37 rfl ?_
          refine f1_0 C hm dX1_isTogether_38 ?_
          refine v_iloadn C dX1_isTogether_41 rfl ?_
          obtain ⟨h2, hsh⟩ := g_if hsh
          refine v_ld C (k := (k + 1)) (isM_lt hm (by decide)) (ce_ma hm (by decide) (by decide)) (gin_in h2) dX1_isTogether_42 ?_
          refine v_ic_eq C 48 dX1_isTogether_43 (by decide) (fun hc => ?_) (fun hc => ?_)
          · replace hsh := ite_p hc hsh
            refine v_iinc C dX1_isTogether_48 rfl (v := 1) (by decide) (by decide) ?_
            refine v_goto C 4 dX1_isTogether_51 (by decide) ?_
            exact v_wk (ih _ _ hsh) (wk_of (And.intro rfl (And.intro rfl (And.intro rfl trivial))))
          · replace hsh := ite_n hc hsh
            refine v_iconst C dX1_isTogether_46 (v := 0) (by decide) ?_
            obtain rfl := so_1 hsh
            exact v_zret C (Or.inl rfl) dX1_isTogether_47
        · replace hsh := ite_p hc hsh
          refine v_iloadn C dX1_isTogether_26 rfl ?_
          refine v_istoren C dX1_isTogether_27 (by decide) ?_
          refine v_goto C 48 dX1_isTogether_28 (by decide) ?_
          refine v_iinc C dX1_isTogether_48 rfl (v := 1) (by decide) (by decide) ?_
          refine v_goto C 4 dX1_isTogether_51 (by decide) ?_
          exact v_wk (ih _ _ hsh) (wk_of (And.intro rfl (And.intro rfl (And.intro rfl trivial))))
set_option maxRecDepth 100000 in
set_option maxHeartbeats 4000000 in
theorem c_X1_isTogether (l : Launch) (D : va_G) (t : gT) (ad : Nat → Nat) (hI : gI ad) {k : Nat} (hm : isM k) {G : gG} {r0 : Int32} (hsh : sh_X1_isTogether k G = some r0) : Mi l D t ad yX1_isTogether cX1_isTogether 3 (some .boolean) (rM 1 21) [.ref (ad k)] G r0 G := by
  refine m_go hI RX1 rfl (by decide +kernel) ⟨rfl, rfl⟩ (Nat.le_of_ble_eq_true rfl) rfl [some (.ref (ad k)), none, none] rfl (fun p e s m args below meth c C => ?_)
  unfold sh_X1_isTogether at hsh
  refine v_iconst C dX1_isTogether_0 (v := -1) (by decide) ?_
  refine v_istoren C dX1_isTogether_1 (by decide) ?_
  refine v_iconst C dX1_isTogether_2 (v := 0) (by decide) ?_
  refine v_istoren C dX1_isTogether_3 (by decide) ?_
  refine v_wk (lp_X1_isTogether_4 C hI hm (fun hsh => ?_) FU _ _ hsh) (wk_of (And.intro rfl (And.intro rfl (And.intro rfl trivial))))
  refine v_aloadn C dX1_isTogether_54 rfl ?_
  refine f1_9 C hm dX1_isTogether_55 ?_
  refine v_if_eq C 65 dX1_isTogether_58 (by decide) (fun hc => ?_) (fun hc => ?_)
  · replace hsh := ite_p hc hsh
    refine v_iconst C dX1_isTogether_65 (v := 0) (by decide) ?_
    obtain rfl := so_1 hsh
    exact v_zret C (Or.inl rfl) dX1_isTogether_66
  · replace hsh := ite_n hc hsh
    refine v_iconst C dX1_isTogether_61 (v := 1) (by decide) ?_
    refine v_goto C 66 dX1_isTogether_62 (by decide) ?_
    obtain rfl := so_1 hsh
    exact v_zret C (Or.inr rfl) dX1_isTogether_66
theorem yo_X1_isTogether : yOk yX1_isTogether 0 := ⟨by decide, by decide, by decide +kernel⟩

def sh_X1_hasUnlikeRates_4 (k : Nat) (G : gG) (kt54 : Option (Int32)) : Nat → Int32 → Int32 → Option (Int32)
  | 0, _, _ => none
  | n + 1, l1, l2 => (if (16 : Int32) ≤ l2 then kt54 else (if (sh_X3_holds (G k 9) l2) = (0 : Int32) then sh_X1_hasUnlikeRates_4 k G kt54 n l1 (l2 + 1) else (if l1 = (-1 : Int32) then sh_X1_hasUnlikeRates_4 k G kt54 n l2 (l2 + 1) else (if gin l2 16 = true then (if gin l1 16 = true then (if (G (k + 2) (l2).toNatClampNeg) = (G (k + 2) (l1).toNatClampNeg) then sh_X1_hasUnlikeRates_4 k G kt54 n l1 (l2 + 1) else some (1 : Int32)) else none) else none))))
def sh_X1_hasUnlikeRates (k : Nat) (G : gG) : Option (Int32) := (sh_X1_hasUnlikeRates_4 k G (some (0 : Int32)) FU (-1 : Int32) (0 : Int32))
set_option maxRecDepth 100000 in
set_option maxHeartbeats 4000000 in
theorem lp_X1_hasUnlikeRates_4 {p : Program} {l : Launch} {e : Env} {s : State} {m : MethodId} {args : Array Value} {below : List Frame} {meth : Method} {c : Code} {D : va_G} {t : gT} {ad : Nat → Nat} (C : gC p s m args meth c cX1_hasUnlikeRates RX1 3 (some .boolean) (isW ad) D t ad) (hI : gI ad) {k : Nat} (hm : isM k) {G : gG} {r0 : Int32} {kt54 : Option (Int32)} (hk54 : kt54 = some r0 → V p l e (rM 1 21) s m args below meth c (isW ad) D t ad 0 0 3 (Qi below D t ad args s r0 G) G 54 [none, none, none] []) : ∀ (n : Nat) (l1 : Int32) (l2 : Int32) , sh_X1_hasUnlikeRates_4 k G kt54 n l1 l2 = some r0 → V p l e (rM 1 21) s m args below meth c (isW ad) D t ad 0 0 3 (Qi below D t ad args s r0 G) G 4 [some (.ref (ad k)), some (.int l1), some (.int l2)] [] := by
  intro n
  induction n with
  | zero => intro l1 l2 hsh; rw [sh_X1_hasUnlikeRates_4.eq_1] at hsh; cases hsh
  | succ n ih =>
    intro l1 l2 hsh
    rw [sh_X1_hasUnlikeRates_4.eq_2] at hsh
    refine v_iloadn C dX1_hasUnlikeRates_4 rfl ?_
    refine v_bipush C dX1_hasUnlikeRates_5 (v := 16) (by decide) ?_
    refine v_ic_ge C 54 dX1_hasUnlikeRates_7 (by decide) (fun hc => ?_) (fun hc => ?_)
    · replace hsh := ite_p hc hsh
      exact v_wk (hk54  hsh) (wk_of trivial)
    · replace hsh := ite_n hc hsh
      refine v_aloadn C dX1_hasUnlikeRates_10 rfl ?_
      refine f1_9 C hm dX1_hasUnlikeRates_11 ?_
      refine v_iloadn C dX1_hasUnlikeRates_14 rfl ?_
      refine v_callN (nP := 2) C (c_X3_holds l D t ad hI  (G := G) rfl) k156 (gc_x C).2.2.2.2.1.2.2.2.2.2 k155 k1 yo_X3_holds ⟨Nat.le_of_ble_eq_true rfl, Nat.le_of_ble_eq_true rfl, rfl, rfl, Nat.zero_le _, Nat.zero_le _⟩ rfl rfl (Nat.le_of_ble_eq_true rfl) dX1_hasUnlikeRates_15 ?_
      refine v_if_eq C 48 dX1_hasUnlikeRates_18 (by decide) (fun hc => ?_) (fun hc => ?_)
      · replace hsh := ite_p hc hsh
        refine v_iinc C dX1_hasUnlikeRates_48 rfl (v := 1) (by decide) (by decide) ?_
        refine v_goto C 4 dX1_hasUnlikeRates_51 (by decide) ?_
        exact v_wk (ih _ _ hsh) (wk_of (And.intro rfl (And.intro rfl (And.intro rfl trivial))))
      · replace hsh := ite_n hc hsh
        refine v_iloadn C dX1_hasUnlikeRates_21 rfl ?_
        refine v_iconst C dX1_hasUnlikeRates_22 (v := -1) (by decide) ?_
        refine v_ic_ne C 31 dX1_hasUnlikeRates_23 (by decide) (fun hc => ?_) (fun hc => ?_)
        · replace hsh := ite_n hc hsh
          refine v_aloadn C dX1_hasUnlikeRates_31 rfl ?_
          refine f1_1 C hm dX1_hasUnlikeRates_32 ?_
          refine v_iloadn C dX1_hasUnlikeRates_35 rfl ?_
          obtain ⟨h1, hsh⟩ := g_if hsh
          refine v_ld C (k := (k + 2)) (isM_lt hm (by decide)) (ce_ma hm (by decide) (by decide)) (gin_in h1) dX1_hasUnlikeRates_36 ?_
          refine v_aloadn C dX1_hasUnlikeRates_37 rfl ?_
          refine f1_1 C hm dX1_hasUnlikeRates_38 ?_
          refine v_iloadn C dX1_hasUnlikeRates_41 rfl ?_
          obtain ⟨h2, hsh⟩ := g_if hsh
          refine v_ld C (k := (k + 2)) (isM_lt hm (by decide)) (ce_ma hm (by decide) (by decide)) (gin_in h2) dX1_hasUnlikeRates_42 ?_
          refine v_ic_eq C 48 dX1_hasUnlikeRates_43 (by decide) (fun hc => ?_) (fun hc => ?_)
          · replace hsh := ite_p hc hsh
            refine v_iinc C dX1_hasUnlikeRates_48 rfl (v := 1) (by decide) (by decide) ?_
            refine v_goto C 4 dX1_hasUnlikeRates_51 (by decide) ?_
            exact v_wk (ih _ _ hsh) (wk_of (And.intro rfl (And.intro rfl (And.intro rfl trivial))))
          · replace hsh := ite_n hc hsh
            refine v_iconst C dX1_hasUnlikeRates_46 (v := 1) (by decide) ?_
            obtain rfl := so_1 hsh
            exact v_zret C (Or.inr rfl) dX1_hasUnlikeRates_47
        · replace hsh := ite_p hc hsh
          refine v_iloadn C dX1_hasUnlikeRates_26 rfl ?_
          refine v_istoren C dX1_hasUnlikeRates_27 (by decide) ?_
          refine v_goto C 48 dX1_hasUnlikeRates_28 (by decide) ?_
          refine v_iinc C dX1_hasUnlikeRates_48 rfl (v := 1) (by decide) (by decide) ?_
          refine v_goto C 4 dX1_hasUnlikeRates_51 (by decide) ?_
          exact v_wk (ih _ _ hsh) (wk_of (And.intro rfl (And.intro rfl (And.intro rfl trivial))))
set_option maxRecDepth 100000 in
set_option maxHeartbeats 4000000 in
theorem c_X1_hasUnlikeRates (l : Launch) (D : va_G) (t : gT) (ad : Nat → Nat) (hI : gI ad) {k : Nat} (hm : isM k) {G : gG} {r0 : Int32} (hsh : sh_X1_hasUnlikeRates k G = some r0) : Mi l D t ad yX1_hasUnlikeRates cX1_hasUnlikeRates 3 (some .boolean) (rM 1 21) [.ref (ad k)] G r0 G := by
  refine m_go hI RX1 rfl (by decide +kernel) ⟨rfl, rfl⟩ (Nat.le_of_ble_eq_true rfl) rfl [some (.ref (ad k)), none, none] rfl (fun p e s m args below meth c C => ?_)
  unfold sh_X1_hasUnlikeRates at hsh
  refine v_iconst C dX1_hasUnlikeRates_0 (v := -1) (by decide) ?_
  refine v_istoren C dX1_hasUnlikeRates_1 (by decide) ?_
  refine v_iconst C dX1_hasUnlikeRates_2 (v := 0) (by decide) ?_
  refine v_istoren C dX1_hasUnlikeRates_3 (by decide) ?_
  refine v_wk (lp_X1_hasUnlikeRates_4 C hI hm (fun hsh => ?_) FU _ _ hsh) (wk_of (And.intro rfl (And.intro rfl (And.intro rfl trivial))))
  refine v_iconst C dX1_hasUnlikeRates_54 (v := 0) (by decide) ?_
  obtain rfl := so_1 hsh
  exact v_zret C (Or.inl rfl) dX1_hasUnlikeRates_55
theorem yo_X1_hasUnlikeRates : yOk yX1_hasUnlikeRates 0 := ⟨by decide, by decide, by decide +kernel⟩

def sh_X1_neighbours_4 (k : Nat) (G : gG) (kt38 : Int32 → Option (Int32)) : Nat → Int32 → Int32 → Int32 → Option (Int32)
  | 0, _, _, _ => none
  | n + 1, l1, l2, l3 => (if (16 : Int32) ≤ l3 then kt38 l2 else (if (sh_X3_holds l1 l3) = (0 : Int32) then sh_X1_neighbours_4 k G kt38 n l1 l2 (l3 + 1) else (if gin l3 16 = true then (bni (l2 ||| ((G (k + 4) (l3).toNatClampNeg) &&& (G k 9))) fun z2 => sh_X1_neighbours_4 k G kt38 n l1 z2 (l3 + 1)) else none)))
def sh_X1_neighbours (k : Nat) (l1 : Int32) (G : gG) : Option (Int32) := (sh_X1_neighbours_4 k G (fun l2 => some l2) FU l1 (0 : Int32) (0 : Int32))
set_option maxRecDepth 100000 in
set_option maxHeartbeats 4000000 in
theorem lp_X1_neighbours_4 {p : Program} {l : Launch} {e : Env} {s : State} {m : MethodId} {args : Array Value} {below : List Frame} {meth : Method} {c : Code} {D : va_G} {t : gT} {ad : Nat → Nat} (C : gC p s m args meth c cX1_neighbours RX1 4 (some .int) (isW ad) D t ad) (hI : gI ad) {k : Nat} (hm : isM k) {G : gG} {r0 : Int32} {kt38 : Int32 → Option (Int32)} (hk38 : ∀ (l2 : Int32) , kt38 l2 = some r0 → V p l e (rM 1 21) s m args below meth c (isW ad) D t ad 0 0 4 (Qi below D t ad args s r0 G) G 38 [none, none, some (.int l2), none] []) : ∀ (n : Nat) (l1 : Int32) (l2 : Int32) (l3 : Int32) , sh_X1_neighbours_4 k G kt38 n l1 l2 l3 = some r0 → V p l e (rM 1 21) s m args below meth c (isW ad) D t ad 0 0 4 (Qi below D t ad args s r0 G) G 4 [some (.ref (ad k)), some (.int l1), some (.int l2), some (.int l3)] [] := by
  intro n
  induction n with
  | zero => intro l1 l2 l3 hsh; rw [sh_X1_neighbours_4.eq_1] at hsh; cases hsh
  | succ n ih =>
    intro l1 l2 l3 hsh
    rw [sh_X1_neighbours_4.eq_2] at hsh
    refine v_iloadn C dX1_neighbours_4 rfl ?_
    refine v_bipush C dX1_neighbours_5 (v := 16) (by decide) ?_
    refine v_ic_ge C 38 dX1_neighbours_7 (by decide) (fun hc => ?_) (fun hc => ?_)
    · replace hsh := ite_p hc hsh
      exact v_wk (hk38 _ hsh) (wk_of (And.intro rfl trivial))
    · replace hsh := ite_n hc hsh
      refine v_iloadn C dX1_neighbours_10 rfl ?_
      refine v_iloadn C dX1_neighbours_11 rfl ?_
      refine v_callN (nP := 2) C (c_X3_holds l D t ad hI  (G := G) rfl) k156 (gc_x C).2.2.2.2.1.2.2.2.2.2 k155 k1 yo_X3_holds ⟨Nat.le_of_ble_eq_true rfl, Nat.le_of_ble_eq_true rfl, rfl, rfl, Nat.zero_le _, Nat.zero_le _⟩ rfl rfl (Nat.le_of_ble_eq_true rfl) dX1_neighbours_12 ?_
      refine v_if_eq C 32 dX1_neighbours_15 (by decide) (fun hc => ?_) (fun hc => ?_)
      · replace hsh := ite_p hc hsh
        refine v_iinc C dX1_neighbours_32 rfl (v := 1) (by decide) (by decide) ?_
        refine v_goto C 4 dX1_neighbours_35 (by decide) ?_
        exact v_wk (ih _ _ _ hsh) (wk_of (And.intro rfl (And.intro rfl (And.intro rfl (And.intro rfl trivial)))))
      · replace hsh := ite_n hc hsh
        refine v_iloadn C dX1_neighbours_18 rfl ?_
        refine v_aloadn C dX1_neighbours_19 rfl ?_
        refine f1_3 C hm dX1_neighbours_20 ?_
        refine v_iloadn C dX1_neighbours_23 rfl ?_
        obtain ⟨h1, hsh⟩ := g_if hsh
        refine v_ld C (k := (k + 4)) (isM_lt hm (by decide)) (ce_ma hm (by decide) (by decide)) (gin_in h1) dX1_neighbours_24 ?_
        refine v_aloadn C dX1_neighbours_25 rfl ?_
        refine f1_9 C hm dX1_neighbours_26 ?_
        refine v_iand C dX1_neighbours_29 ?_
        refine v_ior C dX1_neighbours_30 ?_
        obtain ⟨z2, e3, hsh⟩ := bni_e hsh
        refine v_bi e3 ?_
        refine v_istoren C dX1_neighbours_31 (by decide) ?_
        refine v_iinc C dX1_neighbours_32 rfl (v := 1) (by decide) (by decide) ?_
        refine v_goto C 4 dX1_neighbours_35 (by decide) ?_
        exact v_wk (ih _ _ _ hsh) (wk_of (And.intro rfl (And.intro rfl (And.intro rfl (And.intro rfl trivial)))))
set_option maxRecDepth 100000 in
set_option maxHeartbeats 4000000 in
theorem c_X1_neighbours (l : Launch) (D : va_G) (t : gT) (ad : Nat → Nat) (hI : gI ad) {k : Nat} (hm : isM k) {l1 : Int32} {G : gG} {r0 : Int32} (hsh : sh_X1_neighbours k l1 G = some r0) : Mi l D t ad yX1_neighbours cX1_neighbours 4 (some .int) (rM 1 21) [.ref (ad k), .int l1] G r0 G := by
  refine m_go hI RX1 rfl (by decide +kernel) ⟨rfl, rfl⟩ (Nat.le_of_ble_eq_true rfl) rfl [some (.ref (ad k)), some (.int l1), none, none] rfl (fun p e s m args below meth c C => ?_)
  unfold sh_X1_neighbours at hsh
  refine v_iconst C dX1_neighbours_0 (v := 0) (by decide) ?_
  refine v_istoren C dX1_neighbours_1 (by decide) ?_
  refine v_iconst C dX1_neighbours_2 (v := 0) (by decide) ?_
  refine v_istoren C dX1_neighbours_3 (by decide) ?_
  refine v_wk (lp_X1_neighbours_4 C hI hm (fun l2 hsh => ?_) FU _ _ _ hsh) (wk_of (And.intro rfl (And.intro rfl (And.intro rfl (And.intro rfl trivial)))))
  refine v_iloadn C dX1_neighbours_38 rfl ?_
  obtain rfl := so_1 hsh
  exact v_iret C dX1_neighbours_39
theorem yo_X1_neighbours : yOk yX1_neighbours 1 := ⟨by decide, by decide, by decide +kernel⟩

def sh_X1_pieceOf_11 (k : Nat) (G : gG) (kt43 : Int32 → Option (Int32)) : Nat → Int32 → Int32 → Option (Int32)
  | 0, _, _ => none
  | n + 1, l2, l3 => (if (16 : Int32) ≤ l3 then kt43 l2 else (obp (sh_X1_neighbours k l2 G) fun r4 => (if (l2 ||| r4) = l2 then some l2 else sh_X1_pieceOf_11 k G kt43 n (l2 ||| r4) (l3 + 1))))
def sh_X1_pieceOf (k : Nat) (l1 : Int32) (G : gG) : Option (Int32) := (bni ((G k 9) &&& ((1 : Int32) <<< (l1 &&& 31))) fun z1 => (sh_X1_pieceOf_11 k G (fun l2 => some l2) FU z1 (0 : Int32)))
set_option maxRecDepth 100000 in
set_option maxHeartbeats 4000000 in
theorem lp_X1_pieceOf_11 {p : Program} {l : Launch} {e : Env} {s : State} {m : MethodId} {args : Array Value} {below : List Frame} {meth : Method} {c : Code} {D : va_G} {t : gT} {ad : Nat → Nat} (C : gC p s m args meth c cX1_pieceOf RX1 5 (some .int) (isW ad) D t ad) (hI : gI ad) {k : Nat} (hm : isM k) {G : gG} {r0 : Int32} {kt43 : Int32 → Option (Int32)} (hk43 : ∀ (l2 : Int32) , kt43 l2 = some r0 → V p l e (rM 2 44) s m args below meth c (isW ad) D t ad 0 0 5 (Qi below D t ad args s r0 G) G 43 [none, none, some (.int l2), none, none] []) : ∀ (n : Nat) (l2 : Int32) (l3 : Int32) , sh_X1_pieceOf_11 k G kt43 n l2 l3 = some r0 → V p l e (rM 2 44) s m args below meth c (isW ad) D t ad 0 0 5 (Qi below D t ad args s r0 G) G 11 [some (.ref (ad k)), none, some (.int l2), some (.int l3), none] [] := by
  intro n
  induction n with
  | zero => intro l2 l3 hsh; rw [sh_X1_pieceOf_11.eq_1] at hsh; cases hsh
  | succ n ih =>
    intro l2 l3 hsh
    rw [sh_X1_pieceOf_11.eq_2] at hsh
    refine v_iloadn C dX1_pieceOf_11 rfl ?_
    refine v_bipush C dX1_pieceOf_12 (v := 16) (by decide) ?_
    refine v_ic_ge C 43 dX1_pieceOf_14 (by decide) (fun hc => ?_) (fun hc => ?_)
    · replace hsh := ite_p hc hsh
      exact v_wk (hk43 _ hsh) (wk_of (And.intro rfl trivial))
    · replace hsh := ite_n hc hsh
      refine v_iloadn C dX1_pieceOf_17 rfl ?_
      refine v_aloadn C dX1_pieceOf_18 rfl ?_
      refine v_iloadn C dX1_pieceOf_19 rfl ?_
      obtain ⟨r4, e3, hsh⟩ := obp_e hsh
      refine v_callI (nP := 1) (k := k) C (isM_lt (f := 0) hm (by decide)) (ce_m hm) rfl (c_X1_neighbours l D t ad hI hm e3) k267 k264 k266 kp8 k2 yo_X1_neighbours ⟨Nat.le_of_ble_eq_true rfl, Nat.le_of_ble_eq_true rfl, rfl, rfl, Nat.zero_le _, Nat.zero_le _⟩ rfl rfl (Nat.le_of_ble_eq_true rfl) dX1_pieceOf_20 ?_
      refine v_ior C dX1_pieceOf_23 ?_
      refine v_istore C dX1_pieceOf_24 (by decide) ?_
      refine v_iload C dX1_pieceOf_26 rfl ?_
      refine v_iloadn C dX1_pieceOf_28 rfl ?_
      refine v_ic_ne C 34 dX1_pieceOf_29 (by decide) (fun hc => ?_) (fun hc => ?_)
      · replace hsh := ite_n hc hsh
        refine v_iload C dX1_pieceOf_34 rfl ?_
        refine v_istoren C dX1_pieceOf_36 (by decide) ?_
        refine v_iinc C dX1_pieceOf_37 rfl (v := 1) (by decide) (by decide) ?_
        refine v_goto C 11 dX1_pieceOf_40 (by decide) ?_
        exact v_wk (ih _ _ hsh) (wk_of (And.intro rfl (And.intro rfl (And.intro rfl trivial))))
      · replace hsh := ite_p hc hsh
        refine v_iloadn C dX1_pieceOf_32 rfl ?_
        obtain rfl := so_1 hsh
        exact v_iret C dX1_pieceOf_33
set_option maxRecDepth 100000 in
set_option maxHeartbeats 4000000 in
theorem c_X1_pieceOf (l : Launch) (D : va_G) (t : gT) (ad : Nat → Nat) (hI : gI ad) {k : Nat} (hm : isM k) {l1 : Int32} {G : gG} {r0 : Int32} (hsh : sh_X1_pieceOf k l1 G = some r0) : Mi l D t ad yX1_pieceOf cX1_pieceOf 5 (some .int) (rM 2 44) [.ref (ad k), .int l1] G r0 G := by
  refine m_go hI RX1 rfl (by decide +kernel) ⟨rfl, rfl⟩ (Nat.le_of_ble_eq_true rfl) rfl [some (.ref (ad k)), some (.int l1), none, none, none] rfl (fun p e s m args below meth c C => ?_)
  unfold sh_X1_pieceOf at hsh
  refine v_aloadn C dX1_pieceOf_0 rfl ?_
  refine f1_9 C hm dX1_pieceOf_1 ?_
  refine v_iconst C dX1_pieceOf_4 (v := 1) (by decide) ?_
  refine v_iloadn C dX1_pieceOf_5 rfl ?_
  refine v_ishl C dX1_pieceOf_6 ?_
  refine v_iand C dX1_pieceOf_7 ?_
  obtain ⟨z1, e2, hsh⟩ := bni_e hsh
  refine v_bi e2 ?_
  refine v_istoren C dX1_pieceOf_8 (by decide) ?_
  refine v_iconst C dX1_pieceOf_9 (v := 0) (by decide) ?_
  refine v_istoren C dX1_pieceOf_10 (by decide) ?_
  refine v_wk (lp_X1_pieceOf_11 C hI hm (fun l2 hsh => ?_) FU _ _ hsh) (wk_of (And.intro rfl (And.intro rfl (And.intro rfl trivial))))
  refine v_iloadn C dX1_pieceOf_43 rfl ?_
  obtain rfl := so_1 hsh
  exact v_iret C dX1_pieceOf_44
theorem yo_X1_pieceOf : yOk yX1_pieceOf 1 := ⟨by decide, by decide, by decide +kernel⟩

def sh_X1_pieces_6 (k : Nat) (G : gG) (kt44 : Int32 → Option (Int32)) : Nat → Int32 → Int32 → Int32 → Option (Int32)
  | 0, _, _, _ => none
  | n + 1, l1, l2, l3 => (if (16 : Int32) ≤ l3 then kt44 l1 else (if (sh_X3_holds ((G k 9) &&& (l2 ^^^ (-1 : Int32))) l3) = (0 : Int32) then sh_X1_pieces_6 k G kt44 n l1 l2 (l3 + 1) else (obp (sh_X1_pieceOf k l3 G) fun r2 => sh_X1_pieces_6 k G kt44 n (l1 + 1) (l2 ||| r2) (l3 + 1))))
def sh_X1_pieces (k : Nat) (G : gG) : Option (Int32) := (sh_X1_pieces_6 k G (fun l1 => some l1) FU (0 : Int32) (0 : Int32) (0 : Int32))
set_option maxRecDepth 100000 in
set_option maxHeartbeats 4000000 in
theorem lp_X1_pieces_6 {p : Program} {l : Launch} {e : Env} {s : State} {m : MethodId} {args : Array Value} {below : List Frame} {meth : Method} {c : Code} {D : va_G} {t : gT} {ad : Nat → Nat} (C : gC p s m args meth c cX1_pieces RX1 4 (some .int) (isW ad) D t ad) (hI : gI ad) {k : Nat} (hm : isM k) {G : gG} {r0 : Int32} {kt44 : Int32 → Option (Int32)} (hk44 : ∀ (l1 : Int32) , kt44 l1 = some r0 → V p l e (rM 3 68) s m args below meth c (isW ad) D t ad 0 0 4 (Qi below D t ad args s r0 G) G 44 [none, some (.int l1), none, none] []) : ∀ (n : Nat) (l1 : Int32) (l2 : Int32) (l3 : Int32) , sh_X1_pieces_6 k G kt44 n l1 l2 l3 = some r0 → V p l e (rM 3 68) s m args below meth c (isW ad) D t ad 0 0 4 (Qi below D t ad args s r0 G) G 6 [some (.ref (ad k)), some (.int l1), some (.int l2), some (.int l3)] [] := by
  intro n
  induction n with
  | zero => intro l1 l2 l3 hsh; rw [sh_X1_pieces_6.eq_1] at hsh; cases hsh
  | succ n ih =>
    intro l1 l2 l3 hsh
    rw [sh_X1_pieces_6.eq_2] at hsh
    refine v_iloadn C dX1_pieces_6 rfl ?_
    refine v_bipush C dX1_pieces_7 (v := 16) (by decide) ?_
    refine v_ic_ge C 44 dX1_pieces_9 (by decide) (fun hc => ?_) (fun hc => ?_)
    · replace hsh := ite_p hc hsh
      exact v_wk (hk44 _ hsh) (wk_of (And.intro rfl trivial))
    · replace hsh := ite_n hc hsh
      refine v_aloadn C dX1_pieces_12 rfl ?_
      refine f1_9 C hm dX1_pieces_13 ?_
      refine v_iloadn C dX1_pieces_16 rfl ?_
      refine v_iconst C dX1_pieces_17 (v := -1) (by decide) ?_
      refine v_ixor C dX1_pieces_18 ?_
      refine v_iand C dX1_pieces_19 ?_
      refine v_iloadn C dX1_pieces_20 rfl ?_
      refine v_callN (nP := 2) C (c_X3_holds l D t ad hI  (G := G) rfl) k156 (gc_x C).2.2.2.2.1.2.2.2.2.2 k155 k1 yo_X3_holds ⟨Nat.le_of_ble_eq_true rfl, Nat.le_of_ble_eq_true rfl, rfl, rfl, Nat.zero_le _, Nat.zero_le _⟩ rfl rfl (Nat.le_of_ble_eq_true rfl) dX1_pieces_21 ?_
      refine v_if_eq C 38 dX1_pieces_24 (by decide) (fun hc => ?_) (fun hc => ?_)
      · replace hsh := ite_p hc hsh
        refine v_iinc C dX1_pieces_38 rfl (v := 1) (by decide) (by decide) ?_
        refine v_goto C 6 dX1_pieces_41 (by decide) ?_
        exact v_wk (ih _ _ _ hsh) (wk_of (And.intro rfl (And.intro rfl (And.intro rfl (And.intro rfl trivial)))))
      · replace hsh := ite_n hc hsh
        refine v_iloadn C dX1_pieces_27 rfl ?_
        refine v_aloadn C dX1_pieces_28 rfl ?_
        refine v_iloadn C dX1_pieces_29 rfl ?_
        obtain ⟨r2, e1, hsh⟩ := obp_e hsh
        refine v_callI (nP := 1) (k := k) C (isM_lt (f := 0) hm (by decide)) (ce_m hm) rfl (c_X1_pieceOf l D t ad hI hm e1) k263 k260 k262 kp7 k2 yo_X1_pieceOf ⟨Nat.le_of_ble_eq_true rfl, Nat.le_of_ble_eq_true rfl, rfl, rfl, Nat.zero_le _, Nat.zero_le _⟩ rfl rfl (Nat.le_of_ble_eq_true rfl) dX1_pieces_30 ?_
        refine v_ior C dX1_pieces_33 ?_
        refine v_istoren C dX1_pieces_34 (by decide) ?_
        refine v_iinc C dX1_pieces_35 rfl (v := 1) (by decide) (by decide) ?_
        refine v_iinc C dX1_pieces_38 rfl (v := 1) (by decide) (by decide) ?_
        refine v_goto C 6 dX1_pieces_41 (by decide) ?_
        exact v_wk (ih _ _ _ hsh) (wk_of (And.intro rfl (And.intro rfl (And.intro rfl (And.intro rfl trivial)))))
set_option maxRecDepth 100000 in
set_option maxHeartbeats 4000000 in
theorem c_X1_pieces (l : Launch) (D : va_G) (t : gT) (ad : Nat → Nat) (hI : gI ad) {k : Nat} (hm : isM k) {G : gG} {r0 : Int32} (hsh : sh_X1_pieces k G = some r0) : Mi l D t ad yX1_pieces cX1_pieces 4 (some .int) (rM 3 68) [.ref (ad k)] G r0 G := by
  refine m_go hI RX1 rfl (by decide +kernel) ⟨rfl, rfl⟩ (Nat.le_of_ble_eq_true rfl) rfl [some (.ref (ad k)), none, none, none] rfl (fun p e s m args below meth c C => ?_)
  unfold sh_X1_pieces at hsh
  refine v_iconst C dX1_pieces_0 (v := 0) (by decide) ?_
  refine v_istoren C dX1_pieces_1 (by decide) ?_
  refine v_iconst C dX1_pieces_2 (v := 0) (by decide) ?_
  refine v_istoren C dX1_pieces_3 (by decide) ?_
  refine v_iconst C dX1_pieces_4 (v := 0) (by decide) ?_
  refine v_istoren C dX1_pieces_5 (by decide) ?_
  refine v_wk (lp_X1_pieces_6 C hI hm (fun l1 hsh => ?_) FU _ _ _ hsh) (wk_of (And.intro rfl (And.intro rfl (And.intro rfl (And.intro rfl trivial)))))
  refine v_iloadn C dX1_pieces_44 rfl ?_
  obtain rfl := so_1 hsh
  exact v_iret C dX1_pieces_45
theorem yo_X1_pieces : yOk yX1_pieces 0 := ⟨by decide, by decide, by decide +kernel⟩

def sh_X1_agreeing_14 (k : Nat) (G : gG) (kt55 : Int32 → Option (Int32)) : Nat → Int32 → Int32 → Int32 → Option (Int32)
  | 0, _, _, _ => none
  | n + 1, l1, l2, l3 => (if (16 : Int32) ≤ l3 then kt55 l2 else (if (sh_X1_isOn k l3 G) = (0 : Int32) then sh_X1_agreeing_14 k G kt55 n l1 l2 (l3 + 1) else (if gin l3 16 = true then (if gin l1 16 = true then (if (G (k + 1) (l3).toNatClampNeg) = (G (k + 1) (l1).toNatClampNeg) then sh_X1_agreeing_14 k G kt55 n l1 (l2 ||| ((1 : Int32) <<< (l3 &&& 31))) (l3 + 1) else sh_X1_agreeing_14 k G kt55 n l1 l2 (l3 + 1)) else none) else none)))
def sh_X1_agreeing (k : Nat) (l1 : Int32) (G : gG) : Option (Int32) := (if (sh_X1_isOn k l1 G) = (0 : Int32) then some (0 : Int32) else (sh_X1_agreeing_14 k G (fun l2 => some l2) FU l1 (0 : Int32) (0 : Int32)))
set_option maxRecDepth 100000 in
set_option maxHeartbeats 4000000 in
theorem lp_X1_agreeing_14 {p : Program} {l : Launch} {e : Env} {s : State} {m : MethodId} {args : Array Value} {below : List Frame} {meth : Method} {c : Code} {D : va_G} {t : gT} {ad : Nat → Nat} (C : gC p s m args meth c cX1_agreeing RX1 4 (some .int) (isW ad) D t ad) (hI : gI ad) {k : Nat} (hm : isM k) {G : gG} {r0 : Int32} {kt55 : Int32 → Option (Int32)} (hk55 : ∀ (l2 : Int32) , kt55 l2 = some r0 → V p l e (rM 2 42) s m args below meth c (isW ad) D t ad 0 0 4 (Qi below D t ad args s r0 G) G 55 [none, none, some (.int l2), none] []) : ∀ (n : Nat) (l1 : Int32) (l2 : Int32) (l3 : Int32) , sh_X1_agreeing_14 k G kt55 n l1 l2 l3 = some r0 → V p l e (rM 2 42) s m args below meth c (isW ad) D t ad 0 0 4 (Qi below D t ad args s r0 G) G 14 [some (.ref (ad k)), some (.int l1), some (.int l2), some (.int l3)] [] := by
  intro n
  induction n with
  | zero => intro l1 l2 l3 hsh; rw [sh_X1_agreeing_14.eq_1] at hsh; cases hsh
  | succ n ih =>
    intro l1 l2 l3 hsh
    rw [sh_X1_agreeing_14.eq_2] at hsh
    refine v_iloadn C dX1_agreeing_14 rfl ?_
    refine v_bipush C dX1_agreeing_15 (v := 16) (by decide) ?_
    refine v_ic_ge C 55 dX1_agreeing_17 (by decide) (fun hc => ?_) (fun hc => ?_)
    · replace hsh := ite_p hc hsh
      exact v_wk (hk55 _ hsh) (wk_of (And.intro rfl trivial))
    · replace hsh := ite_n hc hsh
      refine v_aloadn C dX1_agreeing_20 rfl ?_
      refine v_iloadn C dX1_agreeing_21 rfl ?_
      refine v_callI (nP := 1) (k := k) C (isM_lt (f := 0) hm (by decide)) (ce_m hm) rfl (c_X1_isOn l D t ad hI hm rfl) k168 k165 k166 k167 k2 yo_X1_isOn ⟨Nat.le_of_ble_eq_true rfl, Nat.le_of_ble_eq_true rfl, rfl, rfl, Nat.zero_le _, Nat.zero_le _⟩ rfl rfl (Nat.le_of_ble_eq_true rfl) dX1_agreeing_22 ?_
      refine v_if_eq C 49 dX1_agreeing_25 (by decide) (fun hc => ?_) (fun hc => ?_)
      · replace hsh := ite_p hc hsh
        refine v_iinc C dX1_agreeing_49 rfl (v := 1) (by decide) (by decide) ?_
        refine v_goto C 14 dX1_agreeing_52 (by decide) ?_
        exact v_wk (ih _ _ _ hsh) (wk_of (And.intro rfl (And.intro rfl (And.intro rfl (And.intro rfl trivial)))))
      · replace hsh := ite_n hc hsh
        refine v_aloadn C dX1_agreeing_28 rfl ?_
        refine f1_0 C hm dX1_agreeing_29 ?_
        refine v_iloadn C dX1_agreeing_32 rfl ?_
        obtain ⟨h1, hsh⟩ := g_if hsh
        refine v_ld C (k := (k + 1)) (isM_lt hm (by decide)) (ce_ma hm (by decide) (by decide)) (gin_in h1) dX1_agreeing_33 ?_
        refine v_aloadn C dX1_agreeing_34 rfl ?_
        refine f1_0 C hm dX1_agreeing_35 ?_
        refine v_iloadn C dX1_agreeing_38 rfl ?_
        obtain ⟨h2, hsh⟩ := g_if hsh
        refine v_ld C (k := (k + 1)) (isM_lt hm (by decide)) (ce_ma hm (by decide) (by decide)) (gin_in h2) dX1_agreeing_39 ?_
        refine v_ic_ne C 49 dX1_agreeing_40 (by decide) (fun hc => ?_) (fun hc => ?_)
        · replace hsh := ite_n hc hsh
          refine v_iinc C dX1_agreeing_49 rfl (v := 1) (by decide) (by decide) ?_
          refine v_goto C 14 dX1_agreeing_52 (by decide) ?_
          exact v_wk (ih _ _ _ hsh) (wk_of (And.intro rfl (And.intro rfl (And.intro rfl (And.intro rfl trivial)))))
        · replace hsh := ite_p hc hsh
          refine v_iloadn C dX1_agreeing_43 rfl ?_
          refine v_iconst C dX1_agreeing_44 (v := 1) (by decide) ?_
          refine v_iloadn C dX1_agreeing_45 rfl ?_
          refine v_ishl C dX1_agreeing_46 ?_
          refine v_ior C dX1_agreeing_47 ?_
          refine v_istoren C dX1_agreeing_48 (by decide) ?_
          refine v_iinc C dX1_agreeing_49 rfl (v := 1) (by decide) (by decide) ?_
          refine v_goto C 14 dX1_agreeing_52 (by decide) ?_
          exact v_wk (ih _ _ _ hsh) (wk_of (And.intro rfl (And.intro rfl (And.intro rfl (And.intro rfl trivial)))))
set_option maxRecDepth 100000 in
set_option maxHeartbeats 4000000 in
theorem c_X1_agreeing (l : Launch) (D : va_G) (t : gT) (ad : Nat → Nat) (hI : gI ad) {k : Nat} (hm : isM k) {l1 : Int32} {G : gG} {r0 : Int32} (hsh : sh_X1_agreeing k l1 G = some r0) : Mi l D t ad yX1_agreeing cX1_agreeing 4 (some .int) (rM 2 42) [.ref (ad k), .int l1] G r0 G := by
  refine m_go hI RX1 rfl (by decide +kernel) ⟨rfl, rfl⟩ (Nat.le_of_ble_eq_true rfl) rfl [some (.ref (ad k)), some (.int l1), none, none] rfl (fun p e s m args below meth c C => ?_)
  unfold sh_X1_agreeing at hsh
  refine v_aloadn C dX1_agreeing_0 rfl ?_
  refine v_iloadn C dX1_agreeing_1 rfl ?_
  refine v_callI (nP := 1) (k := k) C (isM_lt (f := 0) hm (by decide)) (ce_m hm) rfl (c_X1_isOn l D t ad hI hm rfl) k168 k165 k166 k167 k2 yo_X1_isOn ⟨Nat.le_of_ble_eq_true rfl, Nat.le_of_ble_eq_true rfl, rfl, rfl, Nat.zero_le _, Nat.zero_le _⟩ rfl rfl (Nat.le_of_ble_eq_true rfl) dX1_agreeing_2 ?_
  refine v_if_ne C 10 dX1_agreeing_5 (by decide) (fun hc => ?_) (fun hc => ?_)
  · replace hsh := ite_n hc hsh
    refine v_iconst C dX1_agreeing_10 (v := 0) (by decide) ?_
    refine v_istoren C dX1_agreeing_11 (by decide) ?_
    refine v_iconst C dX1_agreeing_12 (v := 0) (by decide) ?_
    refine v_istoren C dX1_agreeing_13 (by decide) ?_
    refine v_wk (lp_X1_agreeing_14 C hI hm (fun l2 hsh => ?_) FU _ _ _ hsh) (wk_of (And.intro rfl (And.intro rfl (And.intro rfl (And.intro rfl trivial)))))
    refine v_iloadn C dX1_agreeing_55 rfl ?_
    obtain rfl := so_1 hsh
    exact v_iret C dX1_agreeing_56
  · replace hsh := ite_p hc hsh
    refine v_iconst C dX1_agreeing_8 (v := 0) (by decide) ?_
    obtain rfl := so_1 hsh
    exact v_iret C dX1_agreeing_9
theorem yo_X1_agreeing : yOk yX1_agreeing 1 := ⟨by decide, by decide, by decide +kernel⟩

def sh_X1_lampWithMostLinks_6 (k : Nat) (G : gG) (kt51 : Int32 → Option (Int32)) : Nat → Int32 → Int32 → Int32 → Option (Int32)
  | 0, _, _, _ => none
  | n + 1, l1, l2, l3 => (if (16 : Int32) ≤ l3 then kt51 l1 else (if gin l3 16 = true then (bni (sh_J6_bitCount_0f7a4 (G (k + 4) (l3).toNatClampNeg)) fun z2 => (if (sh_X3_holds (G k 8) l3) = (0 : Int32) then sh_X1_lampWithMostLinks_6 k G kt51 n l1 l2 (l3 + 1) else (if z2 ≤ l2 then sh_X1_lampWithMostLinks_6 k G kt51 n l1 l2 (l3 + 1) else sh_X1_lampWithMostLinks_6 k G kt51 n l3 z2 (l3 + 1)))) else none))
def sh_X1_lampWithMostLinks (k : Nat) (G : gG) : Option (Int32) := (sh_X1_lampWithMostLinks_6 k G (fun l1 => some l1) FU (-1 : Int32) (-1 : Int32) (0 : Int32))
set_option maxRecDepth 100000 in
set_option maxHeartbeats 4000000 in
theorem lp_X1_lampWithMostLinks_6 {p : Program} {l : Launch} {e : Env} {s : State} {m : MethodId} {args : Array Value} {below : List Frame} {meth : Method} {c : Code} {D : va_G} {t : gT} {ad : Nat → Nat} (C : gC p s m args meth c cX1_lampWithMostLinks RX1 5 (some .int) (isW ad) D t ad) (hI : gI ad) {k : Nat} (hm : isM k) {G : gG} {r0 : Int32} {kt51 : Int32 → Option (Int32)} (hk51 : ∀ (l1 : Int32) , kt51 l1 = some r0 → V p l e (rM 1 21) s m args below meth c (isW ad) D t ad 0 0 5 (Qi below D t ad args s r0 G) G 51 [none, some (.int l1), none, none, none] []) : ∀ (n : Nat) (l1 : Int32) (l2 : Int32) (l3 : Int32) , sh_X1_lampWithMostLinks_6 k G kt51 n l1 l2 l3 = some r0 → V p l e (rM 1 21) s m args below meth c (isW ad) D t ad 0 0 5 (Qi below D t ad args s r0 G) G 6 [some (.ref (ad k)), some (.int l1), some (.int l2), some (.int l3), none] [] := by
  intro n
  induction n with
  | zero => intro l1 l2 l3 hsh; rw [sh_X1_lampWithMostLinks_6.eq_1] at hsh; cases hsh
  | succ n ih =>
    intro l1 l2 l3 hsh
    rw [sh_X1_lampWithMostLinks_6.eq_2] at hsh
    refine v_iloadn C dX1_lampWithMostLinks_6 rfl ?_
    refine v_bipush C dX1_lampWithMostLinks_7 (v := 16) (by decide) ?_
    refine v_ic_ge C 51 dX1_lampWithMostLinks_9 (by decide) (fun hc => ?_) (fun hc => ?_)
    · replace hsh := ite_p hc hsh
      exact v_wk (hk51 _ hsh) (wk_of (And.intro rfl trivial))
    · replace hsh := ite_n hc hsh
      refine v_aloadn C dX1_lampWithMostLinks_12 rfl ?_
      refine f1_3 C hm dX1_lampWithMostLinks_13 ?_
      refine v_iloadn C dX1_lampWithMostLinks_16 rfl ?_
      obtain ⟨h1, hsh⟩ := g_if hsh
      refine v_ld C (k := (k + 4)) (isM_lt hm (by decide)) (ce_ma hm (by decide) (by decide)) (gin_in h1) dX1_lampWithMostLinks_17 ?_
      refine v_callS (nP := 1) C (c_J6_bitCount_0f7a4 l D t ad hI  (G := G) rfl) k150 k148 k149 k6 yo_J6_bitCount_0f7a4 ⟨Nat.le_of_ble_eq_true rfl, Nat.le_of_ble_eq_true rfl, rfl, rfl, Nat.zero_le _, Nat.zero_le _⟩ rfl rfl (Nat.le_of_ble_eq_true rfl) dX1_lampWithMostLinks_18 ?_
      obtain ⟨z2, e3, hsh⟩ := bni_e hsh
      refine v_bi e3 ?_
      refine v_istore C dX1_lampWithMostLinks_21 (by decide) ?_
      refine v_aloadn C dX1_lampWithMostLinks_23 rfl ?_
      refine f1_8 C hm dX1_lampWithMostLinks_24 ?_
      refine v_iloadn C dX1_lampWithMostLinks_27 rfl ?_
      refine v_callN (nP := 2) C (c_X3_holds l D t ad hI  (G := G) rfl) k156 (gc_x C).2.2.2.2.1.2.2.2.2.2 k155 k1 yo_X3_holds ⟨Nat.le_of_ble_eq_true rfl, Nat.le_of_ble_eq_true rfl, rfl, rfl, Nat.zero_le _, Nat.zero_le _⟩ rfl rfl (Nat.le_of_ble_eq_true rfl) dX1_lampWithMostLinks_28 ?_
      refine v_if_eq C 45 dX1_lampWithMostLinks_31 (by decide) (fun hc => ?_) (fun hc => ?_)
      · replace hsh := ite_p hc hsh
        refine v_iinc C dX1_lampWithMostLinks_45 rfl (v := 1) (by decide) (by decide) ?_
        refine v_goto C 6 dX1_lampWithMostLinks_48 (by decide) ?_
        exact v_wk (ih _ _ _ hsh) (wk_of (And.intro rfl (And.intro rfl (And.intro rfl (And.intro rfl trivial)))))
      · replace hsh := ite_n hc hsh
        refine v_iload C dX1_lampWithMostLinks_34 rfl ?_
        refine v_iloadn C dX1_lampWithMostLinks_36 rfl ?_
        refine v_ic_le C 45 dX1_lampWithMostLinks_37 (by decide) (fun hc => ?_) (fun hc => ?_)
        · replace hsh := ite_p hc hsh
          refine v_iinc C dX1_lampWithMostLinks_45 rfl (v := 1) (by decide) (by decide) ?_
          refine v_goto C 6 dX1_lampWithMostLinks_48 (by decide) ?_
          exact v_wk (ih _ _ _ hsh) (wk_of (And.intro rfl (And.intro rfl (And.intro rfl (And.intro rfl trivial)))))
        · replace hsh := ite_n hc hsh
          refine v_iloadn C dX1_lampWithMostLinks_40 rfl ?_
          refine v_istoren C dX1_lampWithMostLinks_41 (by decide) ?_
          refine v_iload C dX1_lampWithMostLinks_42 rfl ?_
          refine v_istoren C dX1_lampWithMostLinks_44 (by decide) ?_
          refine v_iinc C dX1_lampWithMostLinks_45 rfl (v := 1) (by decide) (by decide) ?_
          refine v_goto C 6 dX1_lampWithMostLinks_48 (by decide) ?_
          exact v_wk (ih _ _ _ hsh) (wk_of (And.intro rfl (And.intro rfl (And.intro rfl (And.intro rfl trivial)))))
set_option maxRecDepth 100000 in
set_option maxHeartbeats 4000000 in
theorem c_X1_lampWithMostLinks (l : Launch) (D : va_G) (t : gT) (ad : Nat → Nat) (hI : gI ad) {k : Nat} (hm : isM k) {G : gG} {r0 : Int32} (hsh : sh_X1_lampWithMostLinks k G = some r0) : Mi l D t ad yX1_lampWithMostLinks cX1_lampWithMostLinks 5 (some .int) (rM 1 21) [.ref (ad k)] G r0 G := by
  refine m_go hI RX1 rfl (by decide +kernel) ⟨rfl, rfl⟩ (Nat.le_of_ble_eq_true rfl) rfl [some (.ref (ad k)), none, none, none, none] rfl (fun p e s m args below meth c C => ?_)
  unfold sh_X1_lampWithMostLinks at hsh
  refine v_iconst C dX1_lampWithMostLinks_0 (v := -1) (by decide) ?_
  refine v_istoren C dX1_lampWithMostLinks_1 (by decide) ?_
  refine v_iconst C dX1_lampWithMostLinks_2 (v := -1) (by decide) ?_
  refine v_istoren C dX1_lampWithMostLinks_3 (by decide) ?_
  refine v_iconst C dX1_lampWithMostLinks_4 (v := 0) (by decide) ?_
  refine v_istoren C dX1_lampWithMostLinks_5 (by decide) ?_
  refine v_wk (lp_X1_lampWithMostLinks_6 C hI hm (fun l1 hsh => ?_) FU _ _ _ hsh) (wk_of (And.intro rfl (And.intro rfl (And.intro rfl (And.intro rfl trivial)))))
  refine v_iloadn C dX1_lampWithMostLinks_51 rfl ?_
  obtain rfl := so_1 hsh
  exact v_iret C dX1_lampWithMostLinks_52
theorem yo_X1_lampWithMostLinks : yOk yX1_lampWithMostLinks 0 := ⟨by decide, by decide, by decide +kernel⟩

def sh_X1_tellLamp (k : Nat) (l1 : Int32) (l2 : Int32) (G : gG) : Option (Int32) := (if l2 = (0 : Int32) then (if gin l1 16 = true then some (G (k + 1) (l1).toNatClampNeg) else none) else (if l2 = (1 : Int32) then (if gin l1 16 = true then some (G (k + 2) (l1).toNatClampNeg) else none) else (if l2 = (2 : Int32) then (if (sh_X1_isOn k l1 G) = (0 : Int32) then some (0 : Int32) else some (1 : Int32)) else (if l2 = (3 : Int32) then (if gin l1 16 = true then some (G (k + 3) (l1).toNatClampNeg) else none) else (if l2 = (4 : Int32) then (if gin l1 16 = true then some (G (k + 5) (l1).toNatClampNeg) else none) else (if l2 = (5 : Int32) then (if gin l1 16 = true then some (G (k + 6) (l1).toNatClampNeg) else none) else (if l2 = (6 : Int32) then (if gin l1 16 = true then some (G (k + 4) (l1).toNatClampNeg) else none) else (if l2 = (7 : Int32) then (obp (sh_X1_pieceOf k l1 G) fun r8 => some r8) else (if l2 = (8 : Int32) then (obp (sh_X1_agreeing k l1 G) fun r10 => some r10) else (if l2 = (9 : Int32) then (if gin l1 16 = true then some (G (k + 7) (l1).toNatClampNeg) else none) else some (-2 : Int32)))))))))))
set_option maxRecDepth 100000 in
set_option maxHeartbeats 4000000 in
theorem c_X1_tellLamp (l : Launch) (D : va_G) (t : gT) (ad : Nat → Nat) (hI : gI ad) {k : Nat} (hm : isM k) {l1 : Int32} {l2 : Int32} {G : gG} {r0 : Int32} (hsh : sh_X1_tellLamp k l1 l2 G = some r0) : Mi l D t ad yX1_tellLamp cX1_tellLamp 3 (some .int) (rM 3 68) [.ref (ad k), .int l1, .int l2] G r0 G := by
  refine m_go hI RX1 rfl (by decide +kernel) ⟨rfl, rfl⟩ (Nat.le_of_ble_eq_true rfl) rfl [some (.ref (ad k)), some (.int l1), some (.int l2)] rfl (fun p e s m args below meth c C => ?_)
  unfold sh_X1_tellLamp at hsh
  refine v_iloadn C dX1_tellLamp_0 rfl ?_
  by_cases h0 : l2 = (0 : Int32)
  · replace hsh := ite_p h0 hsh
    refine v_tabIn C 56 dX1_tellLamp_1 (by rw [h0]; decide) (by rw [h0]; decide) (off := 55) (by rw [h0]; rfl) (by decide) ?_
    refine v_aloadn C dX1_tellLamp_56 rfl ?_
    refine f1_0 C hm dX1_tellLamp_57 ?_
    refine v_iloadn C dX1_tellLamp_60 rfl ?_
    obtain ⟨h1, hsh⟩ := g_if hsh
    refine v_ld C (k := (k + 1)) (isM_lt hm (by decide)) (ce_ma hm (by decide) (by decide)) (gin_in h1) dX1_tellLamp_61 ?_
    obtain rfl := so_1 hsh
    exact v_iret C dX1_tellLamp_62
  · replace hsh := ite_n h0 hsh
    by_cases h1 : l2 = (1 : Int32)
    · replace hsh := ite_p h1 hsh
      refine v_tabIn C 63 dX1_tellLamp_1 (by rw [h1]; decide) (by rw [h1]; decide) (off := 62) (by rw [h1]; rfl) (by decide) ?_
      refine v_aloadn C dX1_tellLamp_63 rfl ?_
      refine f1_1 C hm dX1_tellLamp_64 ?_
      refine v_iloadn C dX1_tellLamp_67 rfl ?_
      obtain ⟨h2, hsh⟩ := g_if hsh
      refine v_ld C (k := (k + 2)) (isM_lt hm (by decide)) (ce_ma hm (by decide) (by decide)) (gin_in h2) dX1_tellLamp_68 ?_
      obtain rfl := so_1 hsh
      exact v_iret C dX1_tellLamp_69
    · replace hsh := ite_n h1 hsh
      by_cases h2 : l2 = (2 : Int32)
      · replace hsh := ite_p h2 hsh
        refine v_tabIn C 70 dX1_tellLamp_1 (by rw [h2]; decide) (by rw [h2]; decide) (off := 69) (by rw [h2]; rfl) (by decide) ?_
        refine v_aloadn C dX1_tellLamp_70 rfl ?_
        refine v_iloadn C dX1_tellLamp_71 rfl ?_
        refine v_callI (nP := 1) (k := k) C (isM_lt (f := 0) hm (by decide)) (ce_m hm) rfl (c_X1_isOn l D t ad hI hm rfl) k168 k165 k166 k167 k2 yo_X1_isOn ⟨Nat.le_of_ble_eq_true rfl, Nat.le_of_ble_eq_true rfl, rfl, rfl, Nat.zero_le _, Nat.zero_le _⟩ rfl rfl (Nat.le_of_ble_eq_true rfl) dX1_tellLamp_72 ?_
        refine v_if_eq C 82 dX1_tellLamp_75 (by decide) (fun hc => ?_) (fun hc => ?_)
        · replace hsh := ite_p hc hsh
          refine v_iconst C dX1_tellLamp_82 (v := 0) (by decide) ?_
          obtain rfl := so_1 hsh
          exact v_iret C dX1_tellLamp_83
        · replace hsh := ite_n hc hsh
          refine v_iconst C dX1_tellLamp_78 (v := 1) (by decide) ?_
          refine v_goto C 83 dX1_tellLamp_79 (by decide) ?_
          obtain rfl := so_1 hsh
          exact v_iret C dX1_tellLamp_83
      · replace hsh := ite_n h2 hsh
        by_cases h3 : l2 = (3 : Int32)
        · replace hsh := ite_p h3 hsh
          refine v_tabIn C 84 dX1_tellLamp_1 (by rw [h3]; decide) (by rw [h3]; decide) (off := 83) (by rw [h3]; rfl) (by decide) ?_
          refine v_aloadn C dX1_tellLamp_84 rfl ?_
          refine f1_2 C hm dX1_tellLamp_85 ?_
          refine v_iloadn C dX1_tellLamp_88 rfl ?_
          obtain ⟨h3, hsh⟩ := g_if hsh
          refine v_ld C (k := (k + 3)) (isM_lt hm (by decide)) (ce_ma hm (by decide) (by decide)) (gin_in h3) dX1_tellLamp_89 ?_
          obtain rfl := so_1 hsh
          exact v_iret C dX1_tellLamp_90
        · replace hsh := ite_n h3 hsh
          by_cases h4 : l2 = (4 : Int32)
          · replace hsh := ite_p h4 hsh
            refine v_tabIn C 91 dX1_tellLamp_1 (by rw [h4]; decide) (by rw [h4]; decide) (off := 90) (by rw [h4]; rfl) (by decide) ?_
            refine v_aloadn C dX1_tellLamp_91 rfl ?_
            refine f1_4 C hm dX1_tellLamp_92 ?_
            refine v_iloadn C dX1_tellLamp_95 rfl ?_
            obtain ⟨h4, hsh⟩ := g_if hsh
            refine v_ld C (k := (k + 5)) (isM_lt hm (by decide)) (ce_ma hm (by decide) (by decide)) (gin_in h4) dX1_tellLamp_96 ?_
            obtain rfl := so_1 hsh
            exact v_iret C dX1_tellLamp_97
          · replace hsh := ite_n h4 hsh
            by_cases h5 : l2 = (5 : Int32)
            · replace hsh := ite_p h5 hsh
              refine v_tabIn C 98 dX1_tellLamp_1 (by rw [h5]; decide) (by rw [h5]; decide) (off := 97) (by rw [h5]; rfl) (by decide) ?_
              refine v_aloadn C dX1_tellLamp_98 rfl ?_
              refine f1_5 C hm dX1_tellLamp_99 ?_
              refine v_iloadn C dX1_tellLamp_102 rfl ?_
              obtain ⟨h5, hsh⟩ := g_if hsh
              refine v_ld C (k := (k + 6)) (isM_lt hm (by decide)) (ce_ma hm (by decide) (by decide)) (gin_in h5) dX1_tellLamp_103 ?_
              obtain rfl := so_1 hsh
              exact v_iret C dX1_tellLamp_104
            · replace hsh := ite_n h5 hsh
              by_cases h6 : l2 = (6 : Int32)
              · replace hsh := ite_p h6 hsh
                refine v_tabIn C 105 dX1_tellLamp_1 (by rw [h6]; decide) (by rw [h6]; decide) (off := 104) (by rw [h6]; rfl) (by decide) ?_
                refine v_aloadn C dX1_tellLamp_105 rfl ?_
                refine f1_3 C hm dX1_tellLamp_106 ?_
                refine v_iloadn C dX1_tellLamp_109 rfl ?_
                obtain ⟨h6, hsh⟩ := g_if hsh
                refine v_ld C (k := (k + 4)) (isM_lt hm (by decide)) (ce_ma hm (by decide) (by decide)) (gin_in h6) dX1_tellLamp_110 ?_
                obtain rfl := so_1 hsh
                exact v_iret C dX1_tellLamp_111
              · replace hsh := ite_n h6 hsh
                by_cases h7 : l2 = (7 : Int32)
                · replace hsh := ite_p h7 hsh
                  refine v_tabIn C 112 dX1_tellLamp_1 (by rw [h7]; decide) (by rw [h7]; decide) (off := 111) (by rw [h7]; rfl) (by decide) ?_
                  refine v_aloadn C dX1_tellLamp_112 rfl ?_
                  refine v_iloadn C dX1_tellLamp_113 rfl ?_
                  obtain ⟨r8, e7, hsh⟩ := obp_e hsh
                  refine v_callI (nP := 1) (k := k) C (isM_lt (f := 0) hm (by decide)) (ce_m hm) rfl (c_X1_pieceOf l D t ad hI hm e7) k263 k260 k262 kp7 k2 yo_X1_pieceOf ⟨Nat.le_of_ble_eq_true rfl, Nat.le_of_ble_eq_true rfl, rfl, rfl, Nat.zero_le _, Nat.zero_le _⟩ rfl rfl (Nat.le_of_ble_eq_true rfl) dX1_tellLamp_114 ?_
                  obtain rfl := so_1 hsh
                  exact v_iret C dX1_tellLamp_117
                · replace hsh := ite_n h7 hsh
                  by_cases h8 : l2 = (8 : Int32)
                  · replace hsh := ite_p h8 hsh
                    refine v_tabIn C 118 dX1_tellLamp_1 (by rw [h8]; decide) (by rw [h8]; decide) (off := 117) (by rw [h8]; rfl) (by decide) ?_
                    refine v_aloadn C dX1_tellLamp_118 rfl ?_
                    refine v_iloadn C dX1_tellLamp_119 rfl ?_
                    obtain ⟨r10, e9, hsh⟩ := obp_e hsh
                    refine v_callI (nP := 1) (k := k) C (isM_lt (f := 0) hm (by decide)) (ce_m hm) rfl (c_X1_agreeing l D t ad hI hm e9) k271 k268 k270 kp9 k2 yo_X1_agreeing ⟨Nat.le_of_ble_eq_true rfl, Nat.le_of_ble_eq_true rfl, rfl, rfl, Nat.zero_le _, Nat.zero_le _⟩ rfl rfl (Nat.le_of_ble_eq_true rfl) dX1_tellLamp_120 ?_
                    obtain rfl := so_1 hsh
                    exact v_iret C dX1_tellLamp_123
                  · replace hsh := ite_n h8 hsh
                    by_cases h9 : l2 = (9 : Int32)
                    · replace hsh := ite_p h9 hsh
                      refine v_tabIn C 124 dX1_tellLamp_1 (by rw [h9]; decide) (by rw [h9]; decide) (off := 123) (by rw [h9]; rfl) (by decide) ?_
                      refine v_aloadn C dX1_tellLamp_124 rfl ?_
                      refine f1_6 C hm dX1_tellLamp_125 ?_
                      refine v_iloadn C dX1_tellLamp_128 rfl ?_
                      obtain ⟨h11, hsh⟩ := g_if hsh
                      refine v_ld C (k := (k + 7)) (isM_lt hm (by decide)) (ce_ma hm (by decide) (by decide)) (gin_in h11) dX1_tellLamp_129 ?_
                      obtain rfl := so_1 hsh
                      exact v_iret C dX1_tellLamp_130
                    · replace hsh := ite_n h9 hsh
                      refine v_tabOut C 131 dX1_tellLamp_1 (by have e0 := ne_toInt h0; have e1 := ne_toInt h1; have e2 := ne_toInt h2; have e3 := ne_toInt h3; have e4 := ne_toInt h4; have e5 := ne_toInt h5; have e6 := ne_toInt h6; have e7 := ne_toInt h7; have e8 := ne_toInt h8; have e9 := ne_toInt h9; have w0 : (0 : Int32).toInt = 0 := (by decide); have w1 : (1 : Int32).toInt = 1 := (by decide); have w2 : (2 : Int32).toInt = 2 := (by decide); have w3 : (3 : Int32).toInt = 3 := (by decide); have w4 : (4 : Int32).toInt = 4 := (by decide); have w5 : (5 : Int32).toInt = 5 := (by decide); have w6 : (6 : Int32).toInt = 6 := (by decide); have w7 : (7 : Int32).toInt = 7 := (by decide); have w8 : (8 : Int32).toInt = 8 := (by decide); have w9 : (9 : Int32).toInt = 9 := (by decide); omega) (by decide) ?_
                      refine v_bipush C dX1_tellLamp_131 (v := -2) (by decide) ?_
                      obtain rfl := so_1 hsh
                      exact v_iret C dX1_tellLamp_133
theorem yo_X1_tellLamp : yOk yX1_tellLamp 2 := ⟨by decide, by decide, by decide +kernel⟩

def sh_X1_tellMesh (k : Nat) (l1 : Int32) (G : gG) : Option (Int32) := (if l1 = (0 : Int32) then some (G k 10) else (if l1 = (1 : Int32) then some (sh_X1_lamps k G) else (if l1 = (2 : Int32) then some (sh_X1_lampsOn k G) else (if l1 = (3 : Int32) then (obp (sh_X1_links k G) fun r2 => some r2) else (if l1 = (4 : Int32) then (obp (sh_X1_pieces k G) fun r4 => some r4) else (if l1 = (5 : Int32) then some (G k 11) else (if l1 = (6 : Int32) then some (G k 12) else (if l1 = (7 : Int32) then some (G k 13) else (if l1 = (8 : Int32) then some (G k 14) else (if l1 = (9 : Int32) then some (G (k + 8) ((0 : Int32)).toNatClampNeg) else (if l1 = (10 : Int32) then some (G (k + 8) ((1 : Int32)).toNatClampNeg) else (if l1 = (11 : Int32) then some (G (k + 8) ((2 : Int32)).toNatClampNeg) else some (-2 : Int32)))))))))))))
set_option maxRecDepth 100000 in
set_option maxHeartbeats 4000000 in
theorem c_X1_tellMesh (l : Launch) (D : va_G) (t : gT) (ad : Nat → Nat) (hI : gI ad) {k : Nat} (hm : isM k) {l1 : Int32} {G : gG} {r0 : Int32} (hsh : sh_X1_tellMesh k l1 G = some r0) : Mi l D t ad yX1_tellMesh cX1_tellMesh 2 (some .int) (rM 4 91) [.ref (ad k), .int l1] G r0 G := by
  refine m_go hI RX1 rfl (by decide +kernel) ⟨rfl, rfl⟩ (Nat.le_of_ble_eq_true rfl) rfl [some (.ref (ad k)), some (.int l1)] rfl (fun p e s m args below meth c C => ?_)
  unfold sh_X1_tellMesh at hsh
  refine v_iloadn C dX1_tellMesh_0 rfl ?_
  by_cases h0 : l1 = (0 : Int32)
  · replace hsh := ite_p h0 hsh
    refine v_tabIn C 64 dX1_tellMesh_1 (by rw [h0]; decide) (by rw [h0]; decide) (off := 63) (by rw [h0]; rfl) (by decide) ?_
    refine v_aloadn C dX1_tellMesh_64 rfl ?_
    refine f1_10 C hm dX1_tellMesh_65 ?_
    obtain rfl := so_1 hsh
    exact v_iret C dX1_tellMesh_68
  · replace hsh := ite_n h0 hsh
    by_cases h1 : l1 = (1 : Int32)
    · replace hsh := ite_p h1 hsh
      refine v_tabIn C 69 dX1_tellMesh_1 (by rw [h1]; decide) (by rw [h1]; decide) (off := 68) (by rw [h1]; rfl) (by decide) ?_
      refine v_aloadn C dX1_tellMesh_69 rfl ?_
      refine v_callI (nP := 0) (k := k) C (isM_lt (f := 0) hm (by decide)) (ce_m hm) rfl (c_X1_lamps l D t ad hI hm rfl) k299 k296 k297 k298 k2 yo_X1_lamps ⟨Nat.le_of_ble_eq_true rfl, Nat.le_of_ble_eq_true rfl, rfl, rfl, Nat.zero_le _, Nat.zero_le _⟩ rfl rfl (Nat.le_of_ble_eq_true rfl) dX1_tellMesh_70 ?_
      obtain rfl := so_1 hsh
      exact v_iret C dX1_tellMesh_73
    · replace hsh := ite_n h1 hsh
      by_cases h2 : l1 = (2 : Int32)
      · replace hsh := ite_p h2 hsh
        refine v_tabIn C 74 dX1_tellMesh_1 (by rw [h2]; decide) (by rw [h2]; decide) (off := 73) (by rw [h2]; rfl) (by decide) ?_
        refine v_aloadn C dX1_tellMesh_74 rfl ?_
        refine v_callI (nP := 0) (k := k) C (isM_lt (f := 0) hm (by decide)) (ce_m hm) rfl (c_X1_lampsOn l D t ad hI hm rfl) k303 k300 k301 k302 k2 yo_X1_lampsOn ⟨Nat.le_of_ble_eq_true rfl, Nat.le_of_ble_eq_true rfl, rfl, rfl, Nat.zero_le _, Nat.zero_le _⟩ rfl rfl (Nat.le_of_ble_eq_true rfl) dX1_tellMesh_75 ?_
        obtain rfl := so_1 hsh
        exact v_iret C dX1_tellMesh_78
      · replace hsh := ite_n h2 hsh
        by_cases h3 : l1 = (3 : Int32)
        · replace hsh := ite_p h3 hsh
          refine v_tabIn C 79 dX1_tellMesh_1 (by rw [h3]; decide) (by rw [h3]; decide) (off := 78) (by rw [h3]; rfl) (by decide) ?_
          refine v_aloadn C dX1_tellMesh_79 rfl ?_
          obtain ⟨r2, e1, hsh⟩ := obp_e hsh
          refine v_callI (nP := 0) (k := k) C (isM_lt (f := 0) hm (by decide)) (ce_m hm) rfl (c_X1_links l D t ad hI hm e1) k307 k304 k305 k306 k2 yo_X1_links ⟨Nat.le_of_ble_eq_true rfl, Nat.le_of_ble_eq_true rfl, rfl, rfl, Nat.zero_le _, Nat.zero_le _⟩ rfl rfl (Nat.le_of_ble_eq_true rfl) dX1_tellMesh_80 ?_
          obtain rfl := so_1 hsh
          exact v_iret C dX1_tellMesh_83
        · replace hsh := ite_n h3 hsh
          by_cases h4 : l1 = (4 : Int32)
          · replace hsh := ite_p h4 hsh
            refine v_tabIn C 84 dX1_tellMesh_1 (by rw [h4]; decide) (by rw [h4]; decide) (off := 83) (by rw [h4]; rfl) (by decide) ?_
            refine v_aloadn C dX1_tellMesh_84 rfl ?_
            obtain ⟨r4, e3, hsh⟩ := obp_e hsh
            refine v_callI (nP := 0) (k := k) C (isM_lt (f := 0) hm (by decide)) (ce_m hm) rfl (c_X1_pieces l D t ad hI hm e3) k311 k308 k309 k310 k2 yo_X1_pieces ⟨Nat.le_of_ble_eq_true rfl, Nat.le_of_ble_eq_true rfl, rfl, rfl, Nat.zero_le _, Nat.zero_le _⟩ rfl rfl (Nat.le_of_ble_eq_true rfl) dX1_tellMesh_85 ?_
            obtain rfl := so_1 hsh
            exact v_iret C dX1_tellMesh_88
          · replace hsh := ite_n h4 hsh
            by_cases h5 : l1 = (5 : Int32)
            · replace hsh := ite_p h5 hsh
              refine v_tabIn C 89 dX1_tellMesh_1 (by rw [h5]; decide) (by rw [h5]; decide) (off := 88) (by rw [h5]; rfl) (by decide) ?_
              refine v_aloadn C dX1_tellMesh_89 rfl ?_
              refine f1_11 C hm dX1_tellMesh_90 ?_
              obtain rfl := so_1 hsh
              exact v_iret C dX1_tellMesh_93
            · replace hsh := ite_n h5 hsh
              by_cases h6 : l1 = (6 : Int32)
              · replace hsh := ite_p h6 hsh
                refine v_tabIn C 94 dX1_tellMesh_1 (by rw [h6]; decide) (by rw [h6]; decide) (off := 93) (by rw [h6]; rfl) (by decide) ?_
                refine v_aloadn C dX1_tellMesh_94 rfl ?_
                refine f1_12 C hm dX1_tellMesh_95 ?_
                obtain rfl := so_1 hsh
                exact v_iret C dX1_tellMesh_98
              · replace hsh := ite_n h6 hsh
                by_cases h7 : l1 = (7 : Int32)
                · replace hsh := ite_p h7 hsh
                  refine v_tabIn C 99 dX1_tellMesh_1 (by rw [h7]; decide) (by rw [h7]; decide) (off := 98) (by rw [h7]; rfl) (by decide) ?_
                  refine v_aloadn C dX1_tellMesh_99 rfl ?_
                  refine f1_13 C hm dX1_tellMesh_100 ?_
                  obtain rfl := so_1 hsh
                  exact v_iret C dX1_tellMesh_103
                · replace hsh := ite_n h7 hsh
                  by_cases h8 : l1 = (8 : Int32)
                  · replace hsh := ite_p h8 hsh
                    refine v_tabIn C 104 dX1_tellMesh_1 (by rw [h8]; decide) (by rw [h8]; decide) (off := 103) (by rw [h8]; rfl) (by decide) ?_
                    refine v_aloadn C dX1_tellMesh_104 rfl ?_
                    refine f1_14 C hm dX1_tellMesh_105 ?_
                    obtain rfl := so_1 hsh
                    exact v_iret C dX1_tellMesh_108
                  · replace hsh := ite_n h8 hsh
                    by_cases h9 : l1 = (9 : Int32)
                    · replace hsh := ite_p h9 hsh
                      refine v_tabIn C 109 dX1_tellMesh_1 (by rw [h9]; decide) (by rw [h9]; decide) (off := 108) (by rw [h9]; rfl) (by decide) ?_
                      refine v_aloadn C dX1_tellMesh_109 rfl ?_
                      refine f1_7 C hm dX1_tellMesh_110 ?_
                      refine v_iconst C dX1_tellMesh_113 (v := 0) (by decide) ?_
                      refine v_ld C (k := (k + 8)) (isM_lt hm (by decide)) (ce_m8 hm) (gin_in (by decide)) dX1_tellMesh_114 ?_
                      obtain rfl := so_1 hsh
                      exact v_iret C dX1_tellMesh_115
                    · replace hsh := ite_n h9 hsh
                      by_cases h10 : l1 = (10 : Int32)
                      · replace hsh := ite_p h10 hsh
                        refine v_tabIn C 116 dX1_tellMesh_1 (by rw [h10]; decide) (by rw [h10]; decide) (off := 115) (by rw [h10]; rfl) (by decide) ?_
                        refine v_aloadn C dX1_tellMesh_116 rfl ?_
                        refine f1_7 C hm dX1_tellMesh_117 ?_
                        refine v_iconst C dX1_tellMesh_120 (v := 1) (by decide) ?_
                        refine v_ld C (k := (k + 8)) (isM_lt hm (by decide)) (ce_m8 hm) (gin_in (by decide)) dX1_tellMesh_121 ?_
                        obtain rfl := so_1 hsh
                        exact v_iret C dX1_tellMesh_122
                      · replace hsh := ite_n h10 hsh
                        by_cases h11 : l1 = (11 : Int32)
                        · replace hsh := ite_p h11 hsh
                          refine v_tabIn C 123 dX1_tellMesh_1 (by rw [h11]; decide) (by rw [h11]; decide) (off := 122) (by rw [h11]; rfl) (by decide) ?_
                          refine v_aloadn C dX1_tellMesh_123 rfl ?_
                          refine f1_7 C hm dX1_tellMesh_124 ?_
                          refine v_iconst C dX1_tellMesh_127 (v := 2) (by decide) ?_
                          refine v_ld C (k := (k + 8)) (isM_lt hm (by decide)) (ce_m8 hm) (gin_in (by decide)) dX1_tellMesh_128 ?_
                          obtain rfl := so_1 hsh
                          exact v_iret C dX1_tellMesh_129
                        · replace hsh := ite_n h11 hsh
                          refine v_tabOut C 130 dX1_tellMesh_1 (by have e0 := ne_toInt h0; have e1 := ne_toInt h1; have e2 := ne_toInt h2; have e3 := ne_toInt h3; have e4 := ne_toInt h4; have e5 := ne_toInt h5; have e6 := ne_toInt h6; have e7 := ne_toInt h7; have e8 := ne_toInt h8; have e9 := ne_toInt h9; have e10 := ne_toInt h10; have e11 := ne_toInt h11; have w0 : (0 : Int32).toInt = 0 := (by decide); have w1 : (1 : Int32).toInt = 1 := (by decide); have w2 : (2 : Int32).toInt = 2 := (by decide); have w3 : (3 : Int32).toInt = 3 := (by decide); have w4 : (4 : Int32).toInt = 4 := (by decide); have w5 : (5 : Int32).toInt = 5 := (by decide); have w6 : (6 : Int32).toInt = 6 := (by decide); have w7 : (7 : Int32).toInt = 7 := (by decide); have w8 : (8 : Int32).toInt = 8 := (by decide); have w9 : (9 : Int32).toInt = 9 := (by decide); have w10 : (10 : Int32).toInt = 10 := (by decide); have w11 : (11 : Int32).toInt = 11 := (by decide); omega) (by decide) ?_
                          refine v_bipush C dX1_tellMesh_130 (v := -2) (by decide) ?_
                          obtain rfl := so_1 hsh
                          exact v_iret C dX1_tellMesh_132
theorem yo_X1_tellMesh : yOk yX1_tellMesh 1 := ⟨by decide, by decide, by decide +kernel⟩
