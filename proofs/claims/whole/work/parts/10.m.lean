def sh_X4_in (l0 : Int32) (l1 : Int32) (l2 : Int32) : Int32 := (if l0 < l1 then (0 : Int32) else (if l2 < l0 then (0 : Int32) else (1 : Int32)))
set_option maxRecDepth 100000 in
set_option maxHeartbeats 4000000 in
theorem c_X4_in (l : Launch) (D : va_G) (t : gT) (ad : Nat → Nat) (hI : gI ad) {l0 : Int32} {l1 : Int32} {l2 : Int32} {G : gG} {r0 : Int32} (hsh : sh_X4_in l0 l1 l2 = r0) : Mi l D t ad yX4_in cX4_in 3 (some .boolean) (rM 0 0) [.int l0, .int l1, .int l2] G r0 G := by
  refine m_go hI RX4 rfl (by decide +kernel) ⟨rfl, rfl⟩ (Nat.le_of_ble_eq_true rfl) rfl [some (.int l0), some (.int l1), some (.int l2)] rfl (fun p e s m args below meth c C => ?_)
  unfold sh_X4_in at hsh
  refine v_iloadn C dX4_in_0 rfl ?_
  refine v_iloadn C dX4_in_1 rfl ?_
  refine v_ic_lt C 14 dX4_in_2 (by decide) (fun hc => ?_) (fun hc => ?_)
  · replace hsh := ite_p hc hsh
    refine v_iconst C dX4_in_14 (v := 0) (by decide) ?_
    subst hsh
    exact v_zret C (Or.inl rfl) dX4_in_15
  · replace hsh := ite_n hc hsh
    refine v_iloadn C dX4_in_5 rfl ?_
    refine v_iloadn C dX4_in_6 rfl ?_
    refine v_ic_gt C 14 dX4_in_7 (by decide) (fun hc => ?_) (fun hc => ?_)
    · replace hsh := ite_p hc hsh
      refine v_iconst C dX4_in_14 (v := 0) (by decide) ?_
      subst hsh
      exact v_zret C (Or.inl rfl) dX4_in_15
    · replace hsh := ite_n hc hsh
      refine v_iconst C dX4_in_10 (v := 1) (by decide) ?_
      refine v_goto C 15 dX4_in_11 (by decide) ?_
      subst hsh
      exact v_zret C (Or.inr rfl) dX4_in_15
theorem nb_X4_in {l0 : Int32} {l1 : Int32} {l2 : Int32}  : nb (sh_X4_in l0 l1 l2) := by
  unfold sh_X4_in
  repeat' split
  all_goals first | exact Or.inl rfl | exact Or.inr rfl | exact nb_X3_holds
theorem yo_X4_in : yOk yX4_in 3 := ⟨by decide, by decide, by decide +kernel⟩

def sh_X4_has (l0 : Int32) (l1 : Int32) : Int32 := (if ((l0 >>> (l1 &&& 31)) &&& (1 : Int32)) = (1 : Int32) then (1 : Int32) else (0 : Int32))
set_option maxRecDepth 100000 in
set_option maxHeartbeats 4000000 in
theorem c_X4_has (l : Launch) (D : va_G) (t : gT) (ad : Nat → Nat) (hI : gI ad) {l0 : Int32} {l1 : Int32} {G : gG} {r0 : Int32} (hsh : sh_X4_has l0 l1 = r0) : Mi l D t ad yX4_has cX4_has 2 (some .boolean) (rM 0 0) [.int l0, .int l1] G r0 G := by
  refine m_go hI RX4 rfl (by decide +kernel) ⟨rfl, rfl⟩ (Nat.le_of_ble_eq_true rfl) rfl [some (.int l0), some (.int l1)] rfl (fun p e s m args below meth c C => ?_)
  unfold sh_X4_has at hsh
  refine v_iloadn C dX4_has_0 rfl ?_
  refine v_iloadn C dX4_has_1 rfl ?_
  refine v_ishr C dX4_has_2 ?_
  refine v_iconst C dX4_has_3 (v := 1) (by decide) ?_
  refine v_iand C dX4_has_4 ?_
  refine v_iconst C dX4_has_5 (v := 1) (by decide) ?_
  refine v_ic_ne C 13 dX4_has_6 (by decide) (fun hc => ?_) (fun hc => ?_)
  · replace hsh := ite_n hc hsh
    refine v_iconst C dX4_has_13 (v := 0) (by decide) ?_
    subst hsh
    exact v_zret C (Or.inl rfl) dX4_has_14
  · replace hsh := ite_p hc hsh
    refine v_iconst C dX4_has_9 (v := 1) (by decide) ?_
    refine v_goto C 14 dX4_has_10 (by decide) ?_
    subst hsh
    exact v_zret C (Or.inr rfl) dX4_has_14
theorem nb_X4_has {l0 : Int32} {l1 : Int32}  : nb (sh_X4_has l0 l1) := by
  unfold sh_X4_has
  repeat' split
  all_goals first | exact Or.inl rfl | exact Or.inr rfl | exact nb_X3_holds
theorem yo_X4_has : yOk yX4_has 2 := ⟨by decide, by decide, by decide +kernel⟩

def sh_X4_bits_4  (kt20 : Int32 → Option (Int32)) : Nat → Int32 → Int32 → Option (Int32)
  | 0, _, _ => none
  | n + 1, l1, l2 => (if l2 = (0 : Int32) then kt20 l1 else sh_X4_bits_4 kt20 n (l1 + 1) (l2 &&& (l2 - (1 : Int32))))
def sh_X4_bits (l0 : Int32) : Option (Int32) := (sh_X4_bits_4 (fun l1 => some l1) FU (0 : Int32) l0)
set_option maxRecDepth 100000 in
set_option maxHeartbeats 4000000 in
theorem lp_X4_bits_4 {p : Program} {l : Launch} {e : Env} {s : State} {m : MethodId} {args : Array Value} {below : List Frame} {meth : Method} {c : Code} {D : va_G} {t : gT} {ad : Nat → Nat} (C : gC p s m args meth c cX4_bits RX4 3 (some .int) (isW ad) D t ad) (hI : gI ad) {G : gG} {r0 : Int32} {kt20 : Int32 → Option (Int32)} (hk20 : ∀ (l1 : Int32) , kt20 l1 = some r0 → V p l e (rM 0 0) s m args below meth c (isW ad) D t ad 0 0 3 (Qi below D t ad args s r0 G) G 20 [none, some (.int l1), none] []) : ∀ (n : Nat) (l1 : Int32) (l2 : Int32) , sh_X4_bits_4 kt20 n l1 l2 = some r0 → V p l e (rM 0 0) s m args below meth c (isW ad) D t ad 0 0 3 (Qi below D t ad args s r0 G) G 4 [none, some (.int l1), some (.int l2)] [] := by
  intro n
  induction n with
  | zero => intro l1 l2 hsh; rw [sh_X4_bits_4.eq_1] at hsh; cases hsh
  | succ n ih =>
    intro l1 l2 hsh
    rw [sh_X4_bits_4.eq_2] at hsh
    refine v_iloadn C dX4_bits_4 rfl ?_
    refine v_if_eq C 20 dX4_bits_5 (by decide) (fun hc => ?_) (fun hc => ?_)
    · replace hsh := ite_p hc hsh
      exact v_wk (hk20 _ hsh) (wk_of (And.intro rfl trivial))
    · replace hsh := ite_n hc hsh
      refine v_iinc C dX4_bits_8 rfl (v := 1) (by decide) (by decide) ?_
      refine v_iloadn C dX4_bits_11 rfl ?_
      refine v_iloadn C dX4_bits_12 rfl ?_
      refine v_iconst C dX4_bits_13 (v := 1) (by decide) ?_
      refine v_isub C dX4_bits_14 ?_
      refine v_iand C dX4_bits_15 ?_
      refine v_istoren C dX4_bits_16 (by decide) ?_
      refine v_goto C 4 dX4_bits_17 (by decide) ?_
      exact v_wk (ih _ _ hsh) (wk_of (And.intro rfl (And.intro rfl trivial)))
set_option maxRecDepth 100000 in
set_option maxHeartbeats 4000000 in
theorem c_X4_bits (l : Launch) (D : va_G) (t : gT) (ad : Nat → Nat) (hI : gI ad) {l0 : Int32} {G : gG} {r0 : Int32} (hsh : sh_X4_bits l0 = some r0) : Mi l D t ad yX4_bits cX4_bits 3 (some .int) (rM 0 0) [.int l0] G r0 G := by
  refine m_go hI RX4 rfl (by decide +kernel) ⟨rfl, rfl⟩ (Nat.le_of_ble_eq_true rfl) rfl [some (.int l0), none, none] rfl (fun p e s m args below meth c C => ?_)
  unfold sh_X4_bits at hsh
  refine v_iconst C dX4_bits_0 (v := 0) (by decide) ?_
  refine v_istoren C dX4_bits_1 (by decide) ?_
  refine v_iloadn C dX4_bits_2 rfl ?_
  refine v_istoren C dX4_bits_3 (by decide) ?_
  refine v_wk (lp_X4_bits_4 C hI (fun l1 hsh => ?_) FU _ _ hsh) (wk_of (And.intro rfl (And.intro rfl trivial)))
  refine v_iloadn C dX4_bits_20 rfl ?_
  obtain rfl := so_1 hsh
  exact v_iret C dX4_bits_21
theorem yo_X4_bits : yOk yX4_bits 1 := ⟨by decide, by decide, by decide +kernel⟩

def sh_X4_of (l1 : Int32) (l2 : Int32) (G : gG) : Option (Int32) := (if gin (((8 : Int32) + ((9 : Int32) * l1)) + l2) 152 = true then some (G 72 ((((8 : Int32) + ((9 : Int32) * l1)) + l2)).toNatClampNeg) else none)
set_option maxRecDepth 100000 in
set_option maxHeartbeats 4000000 in
theorem c_X4_of (l : Launch) (D : va_G) (t : gT) (ad : Nat → Nat) (hI : gI ad) {l1 : Int32} {l2 : Int32} {G : gG} {r0 : Int32} (hsh : sh_X4_of l1 l2 G = some r0) : Mi l D t ad yX4_of cX4_of 3 (some .int) (rM 0 0) [.ref (ad 71), .int l1, .int l2] G r0 G := by
  refine m_go hI RX4 rfl (by decide +kernel) ⟨rfl, rfl⟩ (Nat.le_of_ble_eq_true rfl) rfl [some (.ref (ad 71)), some (.int l1), some (.int l2)] rfl (fun p e s m args below meth c C => ?_)
  unfold sh_X4_of at hsh
  refine v_aloadn C dX4_of_0 rfl ?_
  refine f4_0 C dX4_of_1 ?_
  refine v_bipush C dX4_of_4 (v := 8) (by decide) ?_
  refine v_bipush C dX4_of_6 (v := 9) (by decide) ?_
  refine v_iloadn C dX4_of_8 rfl ?_
  refine v_imul C dX4_of_9 ?_
  refine v_iadd C dX4_of_10 ?_
  refine v_iloadn C dX4_of_11 rfl ?_
  refine v_iadd C dX4_of_12 ?_
  obtain ⟨h1, hsh⟩ := g_if hsh
  refine v_ld C (k := 72) (by decide) rfl (gin_in h1) dX4_of_13 ?_
  obtain rfl := so_1 hsh
  exact v_iret C dX4_of_14
theorem yo_X4_of : yOk yX4_of 2 := ⟨by decide, by decide, by decide +kernel⟩

def sh_X4_put (l1 : Int32) (l2 : Int32) (l3 : Int32) (G : gG) : Option (gG) := (if gin (((8 : Int32) + ((9 : Int32) * l1)) + l2) 152 = true then (bng (gu G 72 ((((8 : Int32) + ((9 : Int32) * l1)) + l2)).toNatClampNeg l3) fun G2 => some G2) else none)
set_option maxRecDepth 100000 in
set_option maxHeartbeats 4000000 in
theorem c_X4_put (l : Launch) (D : va_G) (t : gT) (ad : Nat → Nat) (hI : gI ad) {l1 : Int32} {l2 : Int32} {l3 : Int32} {G : gG} {G0 : gG} (hsh : sh_X4_put l1 l2 l3 G = some G0) : Mv l D t ad yX4_put cX4_put 4 (rM 0 0) [.ref (ad 71), .int l1, .int l2, .int l3] G G0 := by
  refine m_go hI RX4 rfl (by decide +kernel) ⟨rfl, rfl⟩ (Nat.le_of_ble_eq_true rfl) rfl [some (.ref (ad 71)), some (.int l1), some (.int l2), some (.int l3)] rfl (fun p e s m args below meth c C => ?_)
  unfold sh_X4_put at hsh
  refine v_aloadn C dX4_put_0 rfl ?_
  refine f4_0 C dX4_put_1 ?_
  refine v_bipush C dX4_put_4 (v := 8) (by decide) ?_
  refine v_bipush C dX4_put_6 (v := 9) (by decide) ?_
  refine v_iloadn C dX4_put_8 rfl ?_
  refine v_imul C dX4_put_9 ?_
  refine v_iadd C dX4_put_10 ?_
  refine v_iloadn C dX4_put_11 rfl ?_
  refine v_iadd C dX4_put_12 ?_
  refine v_iloadn C dX4_put_13 rfl ?_
  obtain ⟨h1, hsh⟩ := g_if hsh
  refine v_st C (k := 72) (by decide) (fun _ => rfl) (gin_in h1) dX4_put_14 ?_
  obtain ⟨G2, e3, hsh⟩ := bng_e hsh
  refine v_bg e3 ?_
  obtain rfl := so_1 hsh
  exact v_vret C dX4_put_15
theorem yo_X4_put : yOk yX4_put 3 := ⟨by decide, by decide, by decide +kernel⟩

def sh_X4_isLamp (l1 : Int32) (G : gG) : Option (Int32) := (if (sh_X4_in l1 (0 : Int32) (15 : Int32)) = (0 : Int32) then some (0 : Int32) else (obp (sh_X4_of l1 (0 : Int32) G) fun r2 => (if r2 = (1 : Int32) then some (1 : Int32) else some (0 : Int32))))
set_option maxRecDepth 100000 in
set_option maxHeartbeats 4000000 in
theorem c_X4_isLamp (l : Launch) (D : va_G) (t : gT) (ad : Nat → Nat) (hI : gI ad) {l1 : Int32} {G : gG} {r0 : Int32} (hsh : sh_X4_isLamp l1 G = some r0) : Mi l D t ad yX4_isLamp cX4_isLamp 2 (some .boolean) (rM 1 22) [.ref (ad 71), .int l1] G r0 G := by
  refine m_go hI RX4 rfl (by decide +kernel) ⟨rfl, rfl⟩ (Nat.le_of_ble_eq_true rfl) rfl [some (.ref (ad 71)), some (.int l1)] rfl (fun p e s m args below meth c C => ?_)
  unfold sh_X4_isLamp at hsh
  refine v_iloadn C dX4_isLamp_0 rfl ?_
  refine v_iconst C dX4_isLamp_1 (v := 0) (by decide) ?_
  refine v_bipush C dX4_isLamp_2 (v := 15) (by decide) ?_
  refine v_callS (nP := 3) C (c_X4_in l D t ad hI  (G := G) rfl) k576 k574 k575 k5 yo_X4_in ⟨Nat.le_of_ble_eq_true rfl, Nat.le_of_ble_eq_true rfl, rfl, rfl, Nat.zero_le _, Nat.zero_le _⟩ rfl rfl (Nat.le_of_ble_eq_true rfl) dX4_isLamp_4 ?_
  refine v_if_eq C 24 dX4_isLamp_7 (by decide) (fun hc => ?_) (fun hc => ?_)
  · replace hsh := ite_p hc hsh
    refine v_iconst C dX4_isLamp_24 (v := 0) (by decide) ?_
    obtain rfl := so_1 hsh
    exact v_zret C (Or.inl rfl) dX4_isLamp_25
  · replace hsh := ite_n hc hsh
    refine v_aloadn C dX4_isLamp_10 rfl ?_
    refine v_iloadn C dX4_isLamp_11 rfl ?_
    refine v_iconst C dX4_isLamp_12 (v := 0) (by decide) ?_
    obtain ⟨r2, e1, hsh⟩ := obp_e hsh
    refine v_callI (nP := 2) (k := 71) C (by decide) rfl rfl (c_X4_of l D t ad hI  e1) k580 k577 k579 kp20 k5 yo_X4_of ⟨Nat.le_of_ble_eq_true rfl, Nat.le_of_ble_eq_true rfl, rfl, rfl, Nat.zero_le _, Nat.zero_le _⟩ rfl rfl (Nat.le_of_ble_eq_true rfl) dX4_isLamp_13 ?_
    refine v_iconst C dX4_isLamp_16 (v := 1) (by decide) ?_
    refine v_ic_ne C 24 dX4_isLamp_17 (by decide) (fun hc => ?_) (fun hc => ?_)
    · replace hsh := ite_n hc hsh
      refine v_iconst C dX4_isLamp_24 (v := 0) (by decide) ?_
      obtain rfl := so_1 hsh
      exact v_zret C (Or.inl rfl) dX4_isLamp_25
    · replace hsh := ite_p hc hsh
      refine v_iconst C dX4_isLamp_20 (v := 1) (by decide) ?_
      refine v_goto C 25 dX4_isLamp_21 (by decide) ?_
      obtain rfl := so_1 hsh
      exact v_zret C (Or.inr rfl) dX4_isLamp_25
theorem yo_X4_isLamp : yOk yX4_isLamp 1 := ⟨by decide, by decide, by decide +kernel⟩

def sh_X4_isOn (l1 : Int32) (G : gG) : Option (Int32) := (obp (sh_X4_of l1 (0 : Int32) G) fun r2 => (if r2 = (1 : Int32) then (obp (sh_X4_of l1 (3 : Int32) G) fun r4 => (if r4 = (1 : Int32) then some (1 : Int32) else some (0 : Int32))) else some (0 : Int32)))
set_option maxRecDepth 100000 in
set_option maxHeartbeats 4000000 in
theorem c_X4_isOn (l : Launch) (D : va_G) (t : gT) (ad : Nat → Nat) (hI : gI ad) {l1 : Int32} {G : gG} {r0 : Int32} (hsh : sh_X4_isOn l1 G = some r0) : Mi l D t ad yX4_isOn cX4_isOn 2 (some .boolean) (rM 1 22) [.ref (ad 71), .int l1] G r0 G := by
  refine m_go hI RX4 rfl (by decide +kernel) ⟨rfl, rfl⟩ (Nat.le_of_ble_eq_true rfl) rfl [some (.ref (ad 71)), some (.int l1)] rfl (fun p e s m args below meth c C => ?_)
  unfold sh_X4_isOn at hsh
  refine v_aloadn C dX4_isOn_0 rfl ?_
  refine v_iloadn C dX4_isOn_1 rfl ?_
  refine v_iconst C dX4_isOn_2 (v := 0) (by decide) ?_
  obtain ⟨r2, e1, hsh⟩ := obp_e hsh
  refine v_callI (nP := 2) (k := 71) C (by decide) rfl rfl (c_X4_of l D t ad hI  e1) k580 k577 k579 kp20 k5 yo_X4_of ⟨Nat.le_of_ble_eq_true rfl, Nat.le_of_ble_eq_true rfl, rfl, rfl, Nat.zero_le _, Nat.zero_le _⟩ rfl rfl (Nat.le_of_ble_eq_true rfl) dX4_isOn_3 ?_
  refine v_iconst C dX4_isOn_6 (v := 1) (by decide) ?_
  refine v_ic_ne C 24 dX4_isOn_7 (by decide) (fun hc => ?_) (fun hc => ?_)
  · replace hsh := ite_n hc hsh
    refine v_iconst C dX4_isOn_24 (v := 0) (by decide) ?_
    obtain rfl := so_1 hsh
    exact v_zret C (Or.inl rfl) dX4_isOn_25
  · replace hsh := ite_p hc hsh
    refine v_aloadn C dX4_isOn_10 rfl ?_
    refine v_iloadn C dX4_isOn_11 rfl ?_
    refine v_iconst C dX4_isOn_12 (v := 3) (by decide) ?_
    obtain ⟨r4, e3, hsh⟩ := obp_e hsh
    refine v_callI (nP := 2) (k := 71) C (by decide) rfl rfl (c_X4_of l D t ad hI  e3) k580 k577 k579 kp20 k5 yo_X4_of ⟨Nat.le_of_ble_eq_true rfl, Nat.le_of_ble_eq_true rfl, rfl, rfl, Nat.zero_le _, Nat.zero_le _⟩ rfl rfl (Nat.le_of_ble_eq_true rfl) dX4_isOn_13 ?_
    refine v_iconst C dX4_isOn_16 (v := 1) (by decide) ?_
    refine v_ic_ne C 24 dX4_isOn_17 (by decide) (fun hc => ?_) (fun hc => ?_)
    · replace hsh := ite_n hc hsh
      refine v_iconst C dX4_isOn_24 (v := 0) (by decide) ?_
      obtain rfl := so_1 hsh
      exact v_zret C (Or.inl rfl) dX4_isOn_25
    · replace hsh := ite_p hc hsh
      refine v_iconst C dX4_isOn_20 (v := 1) (by decide) ?_
      refine v_goto C 25 dX4_isOn_21 (by decide) ?_
      obtain rfl := so_1 hsh
      exact v_zret C (Or.inr rfl) dX4_isOn_25
theorem yo_X4_isOn : yOk yX4_isOn 1 := ⟨by decide, by decide, by decide +kernel⟩

def sh_X4_round (G : gG) : Option (Int32) := some ((100 : Int32) * (G 72 ((5 : Int32)).toNatClampNeg))
set_option maxRecDepth 100000 in
set_option maxHeartbeats 4000000 in
theorem c_X4_round (l : Launch) (D : va_G) (t : gT) (ad : Nat → Nat) (hI : gI ad) {G : gG} {r0 : Int32} (hsh : sh_X4_round G = some r0) : Mi l D t ad yX4_round cX4_round 1 (some .int) (rM 0 0) [.ref (ad 71)] G r0 G := by
  refine m_go hI RX4 rfl (by decide +kernel) ⟨rfl, rfl⟩ (Nat.le_of_ble_eq_true rfl) rfl [some (.ref (ad 71))] rfl (fun p e s m args below meth c C => ?_)
  unfold sh_X4_round at hsh
  refine v_bipush C dX4_round_0 (v := 100) (by decide) ?_
  refine v_aloadn C dX4_round_2 rfl ?_
  refine f4_0 C dX4_round_3 ?_
  refine v_iconst C dX4_round_6 (v := 5) (by decide) ?_
  refine v_ld C (k := 72) (by decide) rfl (gin_in (by decide)) dX4_round_7 ?_
  refine v_imul C dX4_round_8 ?_
  obtain rfl := so_1 hsh
  exact v_iret C dX4_round_9
theorem yo_X4_round : yOk yX4_round 0 := ⟨by decide, by decide, by decide +kernel⟩

def sh_X4_copy_3 (q0 : Nat) (q2 : Nat) (kt29 : gG → Option (gG)) : Nat → Int32 → Int32 → Int32 → gG → Option (gG)
  | 0, _, _, _, _ => none
  | n + 1, l1, l3, l4, G => (if (152 : Int32) ≤ l4 then kt29  G else (if gin (l1 + l4) (alen q0) = true then (if gin (l3 + l4) (alen q2) = true then (bng (gu G q2 ((l3 + l4)).toNatClampNeg (G q0 ((l1 + l4)).toNatClampNeg)) fun G3 => sh_X4_copy_3 q0 q2 kt29 n l1 l3 (l4 + 1) G3) else none) else none))
def sh_X4_copy (q0 : Nat) (q2 : Nat) (l1 : Int32) (l3 : Int32) (G : gG) : Option (gG) := (sh_X4_copy_3 q0 q2 (fun G => some G) FU l1 l3 (0 : Int32) G)
set_option maxRecDepth 100000 in
set_option maxHeartbeats 4000000 in
theorem lp_X4_copy_3 {p : Program} {l : Launch} {e : Env} {s : State} {m : MethodId} {args : Array Value} {below : List Frame} {meth : Method} {c : Code} {D : va_G} {t : gT} {ad : Nat → Nat} (C : gC p s m args meth c cX4_copy RX4 5 none (isW ad) D t ad) (hI : gI ad) {q0 : Nat} (hq0 : isA q0) {q2 : Nat} (hq2 : isA q2) {G0 : gG} {kt29 : gG → Option (gG)} (hk29 : ∀ (G : gG) , kt29 G = some G0 → V p l e (rM 0 0) s m args below meth c (isW ad) D t ad 0 0 5 (Qv below D t ad args s G0) G 29 [none, none, none, none, none] []) : ∀ (n : Nat) (l1 : Int32) (l3 : Int32) (l4 : Int32) (G : gG) , sh_X4_copy_3 q0 q2 kt29 n l1 l3 l4 G = some G0 → V p l e (rM 0 0) s m args below meth c (isW ad) D t ad 0 0 5 (Qv below D t ad args s G0) G 3 [some (.ref (ad q0)), some (.int l1), some (.ref (ad q2)), some (.int l3), some (.int l4)] [] := by
  intro n
  induction n with
  | zero => intro l1 l3 l4 G hsh; rw [sh_X4_copy_3.eq_1] at hsh; cases hsh
  | succ n ih =>
    intro l1 l3 l4 G hsh
    rw [sh_X4_copy_3.eq_2] at hsh
    refine v_iload C dX4_copy_3 rfl ?_
    refine v_sipush C dX4_copy_5 (v := 152) (by decide) ?_
    refine v_ic_ge C 29 dX4_copy_8 (by decide) (fun hc => ?_) (fun hc => ?_)
    · replace hsh := ite_p hc hsh
      exact v_wk (hk29  _ hsh) (wk_of trivial)
    · replace hsh := ite_n hc hsh
      refine v_aloadn C dX4_copy_11 rfl ?_
      refine v_iloadn C dX4_copy_12 rfl ?_
      refine v_iload C dX4_copy_13 rfl ?_
      refine v_iadd C dX4_copy_15 ?_
      refine v_aloadn C dX4_copy_16 rfl ?_
      refine v_iloadn C dX4_copy_17 rfl ?_
      refine v_iload C dX4_copy_18 rfl ?_
      refine v_iadd C dX4_copy_20 ?_
      obtain ⟨h1, hsh⟩ := g_if hsh
      refine v_ld C (k := q0) hq0.1 (hq0.2 _ _ _) (gin_in h1) dX4_copy_21 ?_
      obtain ⟨h2, hsh⟩ := g_if hsh
      refine v_st C (k := q2) hq2.1 (hq2.2 _ _) (gin_in h2) dX4_copy_22 ?_
      obtain ⟨G3, e4, hsh⟩ := bng_e hsh
      refine v_bg e4 ?_
      refine v_iinc C dX4_copy_23 rfl (v := 1) (by decide) (by decide) ?_
      refine v_goto C 3 dX4_copy_26 (by decide) ?_
      exact v_wk (ih _ _ _ _ hsh) (wk_of (And.intro rfl (And.intro rfl (And.intro rfl (And.intro rfl (And.intro rfl trivial))))))
set_option maxRecDepth 100000 in
set_option maxHeartbeats 4000000 in
theorem c_X4_copy (l : Launch) (D : va_G) (t : gT) (ad : Nat → Nat) (hI : gI ad) {q0 : Nat} (hq0 : isA q0) {q2 : Nat} (hq2 : isA q2) {l1 : Int32} {l3 : Int32} {G : gG} {G0 : gG} (hsh : sh_X4_copy q0 q2 l1 l3 G = some G0) : Mv l D t ad yX4_copy cX4_copy 5 (rM 0 0) [.ref (ad q0), .int l1, .ref (ad q2), .int l3] G G0 := by
  refine m_go hI RX4 rfl (by decide +kernel) ⟨rfl, rfl⟩ (Nat.le_of_ble_eq_true rfl) rfl [some (.ref (ad q0)), some (.int l1), some (.ref (ad q2)), some (.int l3), none] rfl (fun p e s m args below meth c C => ?_)
  unfold sh_X4_copy at hsh
  refine v_iconst C dX4_copy_0 (v := 0) (by decide) ?_
  refine v_istore C dX4_copy_1 (by decide) ?_
  refine v_wk (lp_X4_copy_3 C hI hq0 hq2 (fun G hsh => ?_) FU _ _ _ _ hsh) (wk_of (And.intro rfl (And.intro rfl (And.intro rfl (And.intro rfl (And.intro rfl trivial))))))
  obtain rfl := so_1 hsh
  exact v_vret C dX4_copy_29
theorem yo_X4_copy : yOk yX4_copy 4 := ⟨by decide, by decide, by decide +kernel⟩

def sh_X4_record_j49 (G : gG) : Option (gG) := (obv (sh_X4_copy 72 73 (0 : Int32) ((152 : Int32) * (G 71 2)) G) fun G2 => (bng (gu G2 71 2 ((G2 71 2) + (1 : Int32))) fun G3 => some G3))
def sh_X4_record_10  (kt39 : gG → Option (gG)) : Nat → Int32 → gG → Option (gG)
  | 0, _, _ => none
  | n + 1, l1, G => (if (456 : Int32) ≤ l1 then kt39  G else (if gin ((152 : Int32) + l1) 608 = true then (if gin l1 608 = true then (bng (gu G 73 (l1).toNatClampNeg (G 73 (((152 : Int32) + l1)).toNatClampNeg)) fun G7 => sh_X4_record_10 kt39 n (l1 + 1) G7) else none) else none))
def sh_X4_record (G : gG) : Option (gG) := (if (G 71 2) = (4 : Int32) then (sh_X4_record_10 (fun G => (bng (gu G 71 2 ((G 71 2) - (1 : Int32))) fun G9 => (sh_X4_record_j49 G9))) FU (0 : Int32) G) else (sh_X4_record_j49 G))
set_option maxRecDepth 100000 in
set_option maxHeartbeats 4000000 in
theorem lp_X4_record_10 {p : Program} {l : Launch} {e : Env} {s : State} {m : MethodId} {args : Array Value} {below : List Frame} {meth : Method} {c : Code} {D : va_G} {t : gT} {ad : Nat → Nat} (C : gC p s m args meth c cX4_record RX4 2 none (isW ad) D t ad) (hI : gI ad) {G0 : gG} {kt39 : gG → Option (gG)} (hk39 : ∀ (G : gG) , kt39 G = some G0 → V p l e (rM 1 24) s m args below meth c (isW ad) D t ad 0 0 2 (Qv below D t ad args s G0) G 39 [some (.ref (ad 71)), none] []) : ∀ (n : Nat) (l1 : Int32) (G : gG) , sh_X4_record_10 kt39 n l1 G = some G0 → V p l e (rM 1 24) s m args below meth c (isW ad) D t ad 0 0 2 (Qv below D t ad args s G0) G 10 [some (.ref (ad 71)), some (.int l1)] [] := by
  intro n
  induction n with
  | zero => intro l1 G hsh; rw [sh_X4_record_10.eq_1] at hsh; cases hsh
  | succ n ih =>
    intro l1 G hsh
    rw [sh_X4_record_10.eq_2] at hsh
    refine v_iloadn C dX4_record_10 rfl ?_
    refine v_sipush C dX4_record_11 (v := 456) (by decide) ?_
    refine v_ic_ge C 39 dX4_record_14 (by decide) (fun hc => ?_) (fun hc => ?_)
    · replace hsh := ite_p hc hsh
      exact v_wk (hk39  _ hsh) (wk_of (And.intro rfl trivial))
    · replace hsh := ite_n hc hsh
      refine v_aloadn C dX4_record_17 rfl ?_
      refine f4_1 C dX4_record_18 ?_
      refine v_iloadn C dX4_record_21 rfl ?_
      refine v_aloadn C dX4_record_22 rfl ?_
      refine f4_1 C dX4_record_23 ?_
      refine v_sipush C dX4_record_26 (v := 152) (by decide) ?_
      refine v_iloadn C dX4_record_29 rfl ?_
      refine v_iadd C dX4_record_30 ?_
      obtain ⟨h5, hsh⟩ := g_if hsh
      refine v_ld C (k := 73) (by decide) rfl (gin_in h5) dX4_record_31 ?_
      obtain ⟨h6, hsh⟩ := g_if hsh
      refine v_st C (k := 73) (by decide) (fun _ => rfl) (gin_in h6) dX4_record_32 ?_
      obtain ⟨G7, e8, hsh⟩ := bng_e hsh
      refine v_bg e8 ?_
      refine v_iinc C dX4_record_33 rfl (v := 1) (by decide) (by decide) ?_
      refine v_goto C 10 dX4_record_36 (by decide) ?_
      exact v_wk (ih _ _ hsh) (wk_of (And.intro rfl (And.intro rfl trivial)))
set_option maxRecDepth 100000 in
set_option maxHeartbeats 4000000 in
theorem c_X4_record (l : Launch) (D : va_G) (t : gT) (ad : Nat → Nat) (hI : gI ad) {G : gG} {G0 : gG} (hsh : sh_X4_record G = some G0) : Mv l D t ad yX4_record cX4_record 2 (rM 1 24) [.ref (ad 71)] G G0 := by
  refine m_go hI RX4 rfl (by decide +kernel) ⟨rfl, rfl⟩ (Nat.le_of_ble_eq_true rfl) rfl [some (.ref (ad 71)), none] rfl (fun p e s m args below meth c C => ?_)
  unfold sh_X4_record at hsh
  have hj49 : ∀ (G : gG) , sh_X4_record_j49 G = some G0 → V p l e (rM 1 24) s m args below meth c (isW ad) D t ad 0 0 2 (Qv below D t ad args s G0) G 49 [some (.ref (ad 71)), none] [] := by
    intro G hsh
    unfold sh_X4_record_j49 at hsh
    refine v_aloadn C dX4_record_49 rfl ?_
    refine f4_0 C dX4_record_50 ?_
    refine v_iconst C dX4_record_53 (v := 0) (by decide) ?_
    refine v_aloadn C dX4_record_54 rfl ?_
    refine f4_1 C dX4_record_55 ?_
    refine v_sipush C dX4_record_58 (v := 152) (by decide) ?_
    refine v_aloadn C dX4_record_61 rfl ?_
    refine f4_2 C dX4_record_62 ?_
    refine v_imul C dX4_record_65 ?_
    obtain ⟨G2, e1, hsh⟩ := obv_e hsh
    refine v_callSv (nP := 4) C (c_X4_copy l D t ad hI isA72 isA73 e1) k587 k585 k586 k5 yo_X4_copy ⟨Nat.le_of_ble_eq_true rfl, Nat.le_of_ble_eq_true rfl, rfl, rfl, Nat.zero_le _, Nat.zero_le _⟩ rfl rfl (Nat.le_of_ble_eq_true rfl) dX4_record_66 ?_
    refine v_aloadn C dX4_record_69 rfl ?_
    refine v_dup C dX4_record_70 rfl ?_
    refine f4_2 C dX4_record_71 ?_
    refine v_iconst C dX4_record_74 (v := 1) (by decide) ?_
    refine v_iadd C dX4_record_75 ?_
    refine p4_2 C dX4_record_76 ?_
    obtain ⟨G3, e4, hsh⟩ := bng_e hsh
    refine v_bg e4 ?_
    obtain rfl := so_1 hsh
    exact v_vret C dX4_record_79
  refine v_aloadn C dX4_record_0 rfl ?_
  refine f4_2 C dX4_record_1 ?_
  refine v_iconst C dX4_record_4 (v := 4) (by decide) ?_
  refine v_ic_ne C 49 dX4_record_5 (by decide) (fun hc => ?_) (fun hc => ?_)
  · replace hsh := ite_n hc hsh
    exact v_wk (hj49 _ hsh) (wk_of (And.intro rfl trivial))
  · replace hsh := ite_p hc hsh
    refine v_iconst C dX4_record_8 (v := 0) (by decide) ?_
    refine v_istoren C dX4_record_9 (by decide) ?_
    refine v_wk (lp_X4_record_10 C hI (fun G hsh => ?_) FU _ _ hsh) (wk_of (And.intro rfl (And.intro rfl trivial)))
    refine v_aloadn C dX4_record_39 rfl ?_
    refine v_dup C dX4_record_40 rfl ?_
    refine f4_2 C dX4_record_41 ?_
    refine v_iconst C dX4_record_44 (v := 1) (by decide) ?_
    refine v_isub C dX4_record_45 ?_
    refine p4_2 C dX4_record_46 ?_
    obtain ⟨G9, e10, hsh⟩ := bng_e hsh
    refine v_bg e10 ?_
    exact v_wk (hj49 _ hsh) (wk_of (And.intro rfl trivial))
theorem yo_X4_record : yOk yX4_record 0 := ⟨by decide, by decide, by decide +kernel⟩

def sh_X4_setOf_4 (G : gG) (kt46 : Int32 → Option (Int32)) : Nat → Int32 → Int32 → Int32 → Option (Int32)
  | 0, _, _, _ => none
  | n + 1, l1, l2, l3 => (if (16 : Int32) ≤ l3 then kt46 l2 else (obp (sh_X4_of l3 (0 : Int32) G) fun r2 => (if r2 = (1 : Int32) then (obp (sh_X4_of l3 l1 G) fun r4 => (if r4 = (1 : Int32) then sh_X4_setOf_4 G kt46 n l1 (l2 ||| ((1 : Int32) <<< (l3 &&& 31))) (l3 + 1) else sh_X4_setOf_4 G kt46 n l1 (l2 ||| (0 : Int32)) (l3 + 1))) else sh_X4_setOf_4 G kt46 n l1 (l2 ||| (0 : Int32)) (l3 + 1))))
def sh_X4_setOf (l1 : Int32) (G : gG) : Option (Int32) := (sh_X4_setOf_4 G (fun l2 => some l2) FU l1 (0 : Int32) (0 : Int32))
set_option maxRecDepth 100000 in
set_option maxHeartbeats 4000000 in
theorem lp_X4_setOf_4 {p : Program} {l : Launch} {e : Env} {s : State} {m : MethodId} {args : Array Value} {below : List Frame} {meth : Method} {c : Code} {D : va_G} {t : gT} {ad : Nat → Nat} (C : gC p s m args meth c cX4_setOf RX4 4 (some .int) (isW ad) D t ad) (hI : gI ad) {G : gG} {r0 : Int32} {kt46 : Int32 → Option (Int32)} (hk46 : ∀ (l2 : Int32) , kt46 l2 = some r0 → V p l e (rM 1 22) s m args below meth c (isW ad) D t ad 0 0 4 (Qi below D t ad args s r0 G) G 46 [none, none, some (.int l2), none] []) : ∀ (n : Nat) (l1 : Int32) (l2 : Int32) (l3 : Int32) , sh_X4_setOf_4 G kt46 n l1 l2 l3 = some r0 → V p l e (rM 1 22) s m args below meth c (isW ad) D t ad 0 0 4 (Qi below D t ad args s r0 G) G 4 [some (.ref (ad 71)), some (.int l1), some (.int l2), some (.int l3)] [] := by
  intro n
  induction n with
  | zero => intro l1 l2 l3 hsh; rw [sh_X4_setOf_4.eq_1] at hsh; cases hsh
  | succ n ih =>
    intro l1 l2 l3 hsh
    rw [sh_X4_setOf_4.eq_2] at hsh
    refine v_iloadn C dX4_setOf_4 rfl ?_
    refine v_bipush C dX4_setOf_5 (v := 16) (by decide) ?_
    refine v_ic_ge C 46 dX4_setOf_7 (by decide) (fun hc => ?_) (fun hc => ?_)
    · replace hsh := ite_p hc hsh
      exact v_wk (hk46 _ hsh) (wk_of (And.intro rfl trivial))
    · replace hsh := ite_n hc hsh
      refine v_iloadn C dX4_setOf_10 rfl ?_
      refine v_aloadn C dX4_setOf_11 rfl ?_
      refine v_iloadn C dX4_setOf_12 rfl ?_
      refine v_iconst C dX4_setOf_13 (v := 0) (by decide) ?_
      obtain ⟨r2, e1, hsh⟩ := obp_e hsh
      refine v_callI (nP := 2) (k := 71) C (by decide) rfl rfl (c_X4_of l D t ad hI  e1) k580 k577 k579 kp20 k5 yo_X4_of ⟨Nat.le_of_ble_eq_true rfl, Nat.le_of_ble_eq_true rfl, rfl, rfl, Nat.zero_le _, Nat.zero_le _⟩ rfl rfl (Nat.le_of_ble_eq_true rfl) dX4_setOf_14 ?_
      refine v_iconst C dX4_setOf_17 (v := 1) (by decide) ?_
      refine v_ic_ne C 37 dX4_setOf_18 (by decide) (fun hc => ?_) (fun hc => ?_)
      · replace hsh := ite_n hc hsh
        refine v_iconst C dX4_setOf_37 (v := 0) (by decide) ?_
        refine v_ior C dX4_setOf_38 ?_
        refine v_istoren C dX4_setOf_39 (by decide) ?_
        refine v_iinc C dX4_setOf_40 rfl (v := 1) (by decide) (by decide) ?_
        refine v_goto C 4 dX4_setOf_43 (by decide) ?_
        exact v_wk (ih _ _ _ hsh) (wk_of (And.intro rfl (And.intro rfl (And.intro rfl (And.intro rfl trivial)))))
      · replace hsh := ite_p hc hsh
        refine v_aloadn C dX4_setOf_21 rfl ?_
        refine v_iloadn C dX4_setOf_22 rfl ?_
        refine v_iloadn C dX4_setOf_23 rfl ?_
        obtain ⟨r4, e3, hsh⟩ := obp_e hsh
        refine v_callI (nP := 2) (k := 71) C (by decide) rfl rfl (c_X4_of l D t ad hI  e3) k580 k577 k579 kp20 k5 yo_X4_of ⟨Nat.le_of_ble_eq_true rfl, Nat.le_of_ble_eq_true rfl, rfl, rfl, Nat.zero_le _, Nat.zero_le _⟩ rfl rfl (Nat.le_of_ble_eq_true rfl) dX4_setOf_24 ?_
        refine v_iconst C dX4_setOf_27 (v := 1) (by decide) ?_
        refine v_ic_ne C 37 dX4_setOf_28 (by decide) (fun hc => ?_) (fun hc => ?_)
        · replace hsh := ite_n hc hsh
          refine v_iconst C dX4_setOf_37 (v := 0) (by decide) ?_
          refine v_ior C dX4_setOf_38 ?_
          refine v_istoren C dX4_setOf_39 (by decide) ?_
          refine v_iinc C dX4_setOf_40 rfl (v := 1) (by decide) (by decide) ?_
          refine v_goto C 4 dX4_setOf_43 (by decide) ?_
          exact v_wk (ih _ _ _ hsh) (wk_of (And.intro rfl (And.intro rfl (And.intro rfl (And.intro rfl trivial)))))
        · replace hsh := ite_p hc hsh
          refine v_iconst C dX4_setOf_31 (v := 1) (by decide) ?_
          refine v_iloadn C dX4_setOf_32 rfl ?_
          refine v_ishl C dX4_setOf_33 ?_
          refine v_goto C 38 dX4_setOf_34 (by decide) ?_
          refine v_ior C dX4_setOf_38 ?_
          refine v_istoren C dX4_setOf_39 (by decide) ?_
          refine v_iinc C dX4_setOf_40 rfl (v := 1) (by decide) (by decide) ?_
          refine v_goto C 4 dX4_setOf_43 (by decide) ?_
          exact v_wk (ih _ _ _ hsh) (wk_of (And.intro rfl (And.intro rfl (And.intro rfl (And.intro rfl trivial)))))
set_option maxRecDepth 100000 in
set_option maxHeartbeats 4000000 in
theorem c_X4_setOf (l : Launch) (D : va_G) (t : gT) (ad : Nat → Nat) (hI : gI ad) {l1 : Int32} {G : gG} {r0 : Int32} (hsh : sh_X4_setOf l1 G = some r0) : Mi l D t ad yX4_setOf cX4_setOf 4 (some .int) (rM 1 22) [.ref (ad 71), .int l1] G r0 G := by
  refine m_go hI RX4 rfl (by decide +kernel) ⟨rfl, rfl⟩ (Nat.le_of_ble_eq_true rfl) rfl [some (.ref (ad 71)), some (.int l1), none, none] rfl (fun p e s m args below meth c C => ?_)
  unfold sh_X4_setOf at hsh
  refine v_iconst C dX4_setOf_0 (v := 0) (by decide) ?_
  refine v_istoren C dX4_setOf_1 (by decide) ?_
  refine v_iconst C dX4_setOf_2 (v := 0) (by decide) ?_
  refine v_istoren C dX4_setOf_3 (by decide) ?_
  refine v_wk (lp_X4_setOf_4 C hI (fun l2 hsh => ?_) FU _ _ _ hsh) (wk_of (And.intro rfl (And.intro rfl (And.intro rfl (And.intro rfl trivial)))))
  refine v_iloadn C dX4_setOf_46 rfl ?_
  obtain rfl := so_1 hsh
  exact v_iret C dX4_setOf_47
theorem yo_X4_setOf : yOk yX4_setOf 1 := ⟨by decide, by decide, by decide +kernel⟩

def sh_X4_lampsOn (G : gG) : Option (Int32) := (obp (sh_X4_setOf (3 : Int32) G) fun r2 => some r2)
set_option maxRecDepth 100000 in
set_option maxHeartbeats 4000000 in
theorem c_X4_lampsOn (l : Launch) (D : va_G) (t : gT) (ad : Nat → Nat) (hI : gI ad) {G : gG} {r0 : Int32} (hsh : sh_X4_lampsOn G = some r0) : Mi l D t ad yX4_lampsOn cX4_lampsOn 1 (some .int) (rM 2 45) [.ref (ad 71)] G r0 G := by
  refine m_go hI RX4 rfl (by decide +kernel) ⟨rfl, rfl⟩ (Nat.le_of_ble_eq_true rfl) rfl [some (.ref (ad 71))] rfl (fun p e s m args below meth c C => ?_)
  unfold sh_X4_lampsOn at hsh
  refine v_aloadn C dX4_lampsOn_0 rfl ?_
  refine v_iconst C dX4_lampsOn_1 (v := 3) (by decide) ?_
  obtain ⟨r2, e1, hsh⟩ := obp_e hsh
  refine v_callI (nP := 1) (k := 71) C (by decide) rfl rfl (c_X4_setOf l D t ad hI  e1) k626 k623 k625 kp28 k5 yo_X4_setOf ⟨Nat.le_of_ble_eq_true rfl, Nat.le_of_ble_eq_true rfl, rfl, rfl, Nat.zero_le _, Nat.zero_le _⟩ rfl rfl (Nat.le_of_ble_eq_true rfl) dX4_lampsOn_2 ?_
  obtain rfl := so_1 hsh
  exact v_iret C dX4_lampsOn_5
theorem yo_X4_lampsOn : yOk yX4_lampsOn 0 := ⟨by decide, by decide, by decide +kernel⟩

def sh_X4_links_4 (G : gG) (kt29 : Int32 → Option (Int32)) : Nat → Int32 → Int32 → Option (Int32)
  | 0, _, _ => none
  | n + 1, l1, l2 => (if (16 : Int32) ≤ l2 then kt29 l1 else (obp (sh_X4_of l2 (8 : Int32) G) fun r2 => (obp (sh_X4_bits r2) fun r4 => sh_X4_links_4 G kt29 n (l1 + r4) (l2 + 1))))
def sh_X4_links (G : gG) : Option (Int32) := (sh_X4_links_4 G (fun l1 => some (l1 / (2 : Int32))) FU (0 : Int32) (0 : Int32))
set_option maxRecDepth 100000 in
set_option maxHeartbeats 4000000 in
theorem lp_X4_links_4 {p : Program} {l : Launch} {e : Env} {s : State} {m : MethodId} {args : Array Value} {below : List Frame} {meth : Method} {c : Code} {D : va_G} {t : gT} {ad : Nat → Nat} (C : gC p s m args meth c cX4_links RX4 3 (some .int) (isW ad) D t ad) (hI : gI ad) {G : gG} {r0 : Int32} {kt29 : Int32 → Option (Int32)} (hk29 : ∀ (l1 : Int32) , kt29 l1 = some r0 → V p l e (rM 1 22) s m args below meth c (isW ad) D t ad 0 0 3 (Qi below D t ad args s r0 G) G 29 [none, some (.int l1), none] []) : ∀ (n : Nat) (l1 : Int32) (l2 : Int32) , sh_X4_links_4 G kt29 n l1 l2 = some r0 → V p l e (rM 1 22) s m args below meth c (isW ad) D t ad 0 0 3 (Qi below D t ad args s r0 G) G 4 [some (.ref (ad 71)), some (.int l1), some (.int l2)] [] := by
  intro n
  induction n with
  | zero => intro l1 l2 hsh; rw [sh_X4_links_4.eq_1] at hsh; cases hsh
  | succ n ih =>
    intro l1 l2 hsh
    rw [sh_X4_links_4.eq_2] at hsh
    refine v_iloadn C dX4_links_4 rfl ?_
    refine v_bipush C dX4_links_5 (v := 16) (by decide) ?_
    refine v_ic_ge C 29 dX4_links_7 (by decide) (fun hc => ?_) (fun hc => ?_)
    · replace hsh := ite_p hc hsh
      exact v_wk (hk29 _ hsh) (wk_of (And.intro rfl trivial))
    · replace hsh := ite_n hc hsh
      refine v_iloadn C dX4_links_10 rfl ?_
      refine v_aloadn C dX4_links_11 rfl ?_
      refine v_iloadn C dX4_links_12 rfl ?_
      refine v_bipush C dX4_links_13 (v := 8) (by decide) ?_
      obtain ⟨r2, e1, hsh⟩ := obp_e hsh
      refine v_callI (nP := 2) (k := 71) C (by decide) rfl rfl (c_X4_of l D t ad hI  e1) k580 k577 k579 kp20 k5 yo_X4_of ⟨Nat.le_of_ble_eq_true rfl, Nat.le_of_ble_eq_true rfl, rfl, rfl, Nat.zero_le _, Nat.zero_le _⟩ rfl rfl (Nat.le_of_ble_eq_true rfl) dX4_links_15 ?_
      obtain ⟨r4, e3, hsh⟩ := obp_e hsh
      refine v_callS (nP := 1) C (c_X4_bits l D t ad hI  (G := G) e3) k610 k608 k609 k5 yo_X4_bits ⟨Nat.le_of_ble_eq_true rfl, Nat.le_of_ble_eq_true rfl, rfl, rfl, Nat.zero_le _, Nat.zero_le _⟩ rfl rfl (Nat.le_of_ble_eq_true rfl) dX4_links_18 ?_
      refine v_iadd C dX4_links_21 ?_
      refine v_istoren C dX4_links_22 (by decide) ?_
      refine v_iinc C dX4_links_23 rfl (v := 1) (by decide) (by decide) ?_
      refine v_goto C 4 dX4_links_26 (by decide) ?_
      exact v_wk (ih _ _ hsh) (wk_of (And.intro rfl (And.intro rfl (And.intro rfl trivial))))
set_option maxRecDepth 100000 in
set_option maxHeartbeats 4000000 in
theorem c_X4_links (l : Launch) (D : va_G) (t : gT) (ad : Nat → Nat) (hI : gI ad) {G : gG} {r0 : Int32} (hsh : sh_X4_links G = some r0) : Mi l D t ad yX4_links cX4_links 3 (some .int) (rM 1 22) [.ref (ad 71)] G r0 G := by
  refine m_go hI RX4 rfl (by decide +kernel) ⟨rfl, rfl⟩ (Nat.le_of_ble_eq_true rfl) rfl [some (.ref (ad 71)), none, none] rfl (fun p e s m args below meth c C => ?_)
  unfold sh_X4_links at hsh
  refine v_iconst C dX4_links_0 (v := 0) (by decide) ?_
  refine v_istoren C dX4_links_1 (by decide) ?_
  refine v_iconst C dX4_links_2 (v := 0) (by decide) ?_
  refine v_istoren C dX4_links_3 (by decide) ?_
  refine v_wk (lp_X4_links_4 C hI (fun l1 hsh => ?_) FU _ _ hsh) (wk_of (And.intro rfl (And.intro rfl (And.intro rfl trivial))))
  refine v_iloadn C dX4_links_29 rfl ?_
  refine v_iconst C dX4_links_30 (v := 2) (by decide) ?_
  refine v_idiv C dX4_links_31 (by decide) ?_
  obtain rfl := so_1 hsh
  exact v_iret C dX4_links_32
theorem yo_X4_links : yOk yX4_links 0 := ⟨by decide, by decide, by decide +kernel⟩

def sh_X4_grow_j59 (kt68 : gG → Option (gG)) (self2 : Int32 → gG → Option (gG)) (l1 : Int32) (x1 : Int32) (x2 : Int32) (x3 : Int32) (G : gG) : Option (gG) := (obv (sh_X4_put x1 x2 x3 G) fun G12 => self2 (l1 + 1) G12)
def sh_X4_grow_2  (kt68 : gG → Option (gG)) : Nat → Int32 → gG → Option (gG)
  | 0, _, _ => none
  | n + 1, l1, G => (if (16 : Int32) ≤ l1 then kt68  G else (obp (sh_X4_isOn l1 G) fun r2 => (if r2 = (0 : Int32) then sh_X4_grow_2 kt68 n (l1 + 1) G else (obp (sh_X4_of l1 (1 : Int32) G) fun r4 => (obp (sh_X4_of l1 (2 : Int32) G) fun r6 => (obv (sh_X4_put l1 (1 : Int32) (r4 + r6) G) fun G8 => (obp (sh_X4_of l1 (4 : Int32) G8) fun r10 => (if r10 ≤ (0 : Int32) then (sh_X4_grow_j59 kt68 (sh_X4_grow_2 kt68 n) l1 l1 (4 : Int32) (0 : Int32) G8) else (obp (sh_X4_of l1 (4 : Int32) G8) fun r14 => (sh_X4_grow_j59 kt68 (sh_X4_grow_2 kt68 n) l1 l1 (4 : Int32) (r14 - (1 : Int32)) G8))))))))))
def sh_X4_grow (G : gG) : Option (gG) := (sh_X4_grow_2 (fun G => some G) FU (0 : Int32) G)
set_option maxRecDepth 100000 in
set_option maxHeartbeats 4000000 in
theorem lp_X4_grow_2 {p : Program} {l : Launch} {e : Env} {s : State} {m : MethodId} {args : Array Value} {below : List Frame} {meth : Method} {c : Code} {D : va_G} {t : gT} {ad : Nat → Nat} (C : gC p s m args meth c cX4_grow RX4 2 none (isW ad) D t ad) (hI : gI ad) {G0 : gG} {kt68 : gG → Option (gG)} (hk68 : ∀ (G : gG) , kt68 G = some G0 → V p l e (rM 2 43) s m args below meth c (isW ad) D t ad 0 0 2 (Qv below D t ad args s G0) G 68 [none, none] []) : ∀ (n : Nat) (l1 : Int32) (G : gG) , sh_X4_grow_2 kt68 n l1 G = some G0 → V p l e (rM 2 43) s m args below meth c (isW ad) D t ad 0 0 2 (Qv below D t ad args s G0) G 2 [some (.ref (ad 71)), some (.int l1)] [] := by
  intro n
  induction n with
  | zero => intro l1 G hsh; rw [sh_X4_grow_2.eq_1] at hsh; cases hsh
  | succ n ih =>
    intro l1 G hsh
    rw [sh_X4_grow_2.eq_2] at hsh
    have hj59 : ∀ (l1 : Int32) (x1 : Int32) (x2 : Int32) (x3 : Int32) (G : gG) , sh_X4_grow_j59 kt68 (sh_X4_grow_2 kt68 n) l1 x1 x2 x3 G = some G0 → V p l e (rM 2 43) s m args below meth c (isW ad) D t ad 0 0 2 (Qv below D t ad args s G0) G 59 [some (.ref (ad 71)), some (.int l1)] [.int x3, .int x2, .int x1, .ref (ad 71)] := by
      intro l1 x1 x2 x3 G hsh
      unfold sh_X4_grow_j59 at hsh
      obtain ⟨G12, e11, hsh⟩ := obv_e hsh
      refine v_callV (nP := 3) (k := 71) C (by decide) rfl rfl (c_X4_put l D t ad hI  e11) k595 k592 k594 kp23 k5 yo_X4_put ⟨Nat.le_of_ble_eq_true rfl, Nat.le_of_ble_eq_true rfl, rfl, rfl, Nat.zero_le _, Nat.zero_le _⟩ rfl rfl (Nat.le_of_ble_eq_true rfl) dX4_grow_59 ?_
      refine v_iinc C dX4_grow_62 rfl (v := 1) (by decide) (by decide) ?_
      refine v_goto C 2 dX4_grow_65 (by decide) ?_
      exact v_wk (ih _ _ hsh) (wk_of (And.intro rfl (And.intro rfl trivial)))
    refine v_iloadn C dX4_grow_2 rfl ?_
    refine v_bipush C dX4_grow_3 (v := 16) (by decide) ?_
    refine v_ic_ge C 68 dX4_grow_5 (by decide) (fun hc => ?_) (fun hc => ?_)
    · replace hsh := ite_p hc hsh
      exact v_wk (hk68  _ hsh) (wk_of trivial)
    · replace hsh := ite_n hc hsh
      refine v_aloadn C dX4_grow_8 rfl ?_
      refine v_iloadn C dX4_grow_9 rfl ?_
      obtain ⟨r2, e1, hsh⟩ := obp_e hsh
      refine v_callI (nP := 1) (k := 71) C (by decide) rfl rfl (c_X4_isOn l D t ad hI  e1) k618 k615 k617 kp26 k5 yo_X4_isOn ⟨Nat.le_of_ble_eq_true rfl, Nat.le_of_ble_eq_true rfl, rfl, rfl, Nat.zero_le _, Nat.zero_le _⟩ rfl rfl (Nat.le_of_ble_eq_true rfl) dX4_grow_10 ?_
      refine v_if_eq C 62 dX4_grow_13 (by decide) (fun hc => ?_) (fun hc => ?_)
      · replace hsh := ite_p hc hsh
        refine v_iinc C dX4_grow_62 rfl (v := 1) (by decide) (by decide) ?_
        refine v_goto C 2 dX4_grow_65 (by decide) ?_
        exact v_wk (ih _ _ hsh) (wk_of (And.intro rfl (And.intro rfl trivial)))
      · replace hsh := ite_n hc hsh
        refine v_aloadn C dX4_grow_16 rfl ?_
        refine v_iloadn C dX4_grow_17 rfl ?_
        refine v_iconst C dX4_grow_18 (v := 1) (by decide) ?_
        refine v_aloadn C dX4_grow_19 rfl ?_
        refine v_iloadn C dX4_grow_20 rfl ?_
        refine v_iconst C dX4_grow_21 (v := 1) (by decide) ?_
        obtain ⟨r4, e3, hsh⟩ := obp_e hsh
        refine v_callI (nP := 2) (k := 71) C (by decide) rfl rfl (c_X4_of l D t ad hI  e3) k580 k577 k579 kp20 k5 yo_X4_of ⟨Nat.le_of_ble_eq_true rfl, Nat.le_of_ble_eq_true rfl, rfl, rfl, Nat.zero_le _, Nat.zero_le _⟩ rfl rfl (Nat.le_of_ble_eq_true rfl) dX4_grow_22 ?_
        refine v_aloadn C dX4_grow_25 rfl ?_
        refine v_iloadn C dX4_grow_26 rfl ?_
        refine v_iconst C dX4_grow_27 (v := 2) (by decide) ?_
        obtain ⟨r6, e5, hsh⟩ := obp_e hsh
        refine v_callI (nP := 2) (k := 71) C (by decide) rfl rfl (c_X4_of l D t ad hI  e5) k580 k577 k579 kp20 k5 yo_X4_of ⟨Nat.le_of_ble_eq_true rfl, Nat.le_of_ble_eq_true rfl, rfl, rfl, Nat.zero_le _, Nat.zero_le _⟩ rfl rfl (Nat.le_of_ble_eq_true rfl) dX4_grow_28 ?_
        refine v_iadd C dX4_grow_31 ?_
        obtain ⟨G8, e7, hsh⟩ := obv_e hsh
        refine v_callV (nP := 3) (k := 71) C (by decide) rfl rfl (c_X4_put l D t ad hI  e7) k595 k592 k594 kp23 k5 yo_X4_put ⟨Nat.le_of_ble_eq_true rfl, Nat.le_of_ble_eq_true rfl, rfl, rfl, Nat.zero_le _, Nat.zero_le _⟩ rfl rfl (Nat.le_of_ble_eq_true rfl) dX4_grow_32 ?_
        refine v_aloadn C dX4_grow_35 rfl ?_
        refine v_iloadn C dX4_grow_36 rfl ?_
        refine v_iconst C dX4_grow_37 (v := 4) (by decide) ?_
        refine v_aloadn C dX4_grow_38 rfl ?_
        refine v_iloadn C dX4_grow_39 rfl ?_
        refine v_iconst C dX4_grow_40 (v := 4) (by decide) ?_
        obtain ⟨r10, e9, hsh⟩ := obp_e hsh
        refine v_callI (nP := 2) (k := 71) C (by decide) rfl rfl (c_X4_of l D t ad hI  e9) k580 k577 k579 kp20 k5 yo_X4_of ⟨Nat.le_of_ble_eq_true rfl, Nat.le_of_ble_eq_true rfl, rfl, rfl, Nat.zero_le _, Nat.zero_le _⟩ rfl rfl (Nat.le_of_ble_eq_true rfl) dX4_grow_41 ?_
        refine v_if_le C 58 dX4_grow_44 (by decide) (fun hc => ?_) (fun hc => ?_)
        · replace hsh := ite_p hc hsh
          refine v_iconst C dX4_grow_58 (v := 0) (by decide) ?_
          exact v_wk (hj59 _ _ _ _ _ hsh) (wk_of (And.intro rfl (And.intro rfl trivial)))
        · replace hsh := ite_n hc hsh
          refine v_aloadn C dX4_grow_47 rfl ?_
          refine v_iloadn C dX4_grow_48 rfl ?_
          refine v_iconst C dX4_grow_49 (v := 4) (by decide) ?_
          obtain ⟨r14, e13, hsh⟩ := obp_e hsh
          refine v_callI (nP := 2) (k := 71) C (by decide) rfl rfl (c_X4_of l D t ad hI  e13) k580 k577 k579 kp20 k5 yo_X4_of ⟨Nat.le_of_ble_eq_true rfl, Nat.le_of_ble_eq_true rfl, rfl, rfl, Nat.zero_le _, Nat.zero_le _⟩ rfl rfl (Nat.le_of_ble_eq_true rfl) dX4_grow_50 ?_
          refine v_iconst C dX4_grow_53 (v := 1) (by decide) ?_
          refine v_isub C dX4_grow_54 ?_
          refine v_goto C 59 dX4_grow_55 (by decide) ?_
          exact v_wk (hj59 _ _ _ _ _ hsh) (wk_of (And.intro rfl (And.intro rfl trivial)))
set_option maxRecDepth 100000 in
set_option maxHeartbeats 4000000 in
theorem c_X4_grow (l : Launch) (D : va_G) (t : gT) (ad : Nat → Nat) (hI : gI ad) {G : gG} {G0 : gG} (hsh : sh_X4_grow G = some G0) : Mv l D t ad yX4_grow cX4_grow 2 (rM 2 43) [.ref (ad 71)] G G0 := by
  refine m_go hI RX4 rfl (by decide +kernel) ⟨rfl, rfl⟩ (Nat.le_of_ble_eq_true rfl) rfl [some (.ref (ad 71)), none] rfl (fun p e s m args below meth c C => ?_)
  unfold sh_X4_grow at hsh
  refine v_iconst C dX4_grow_0 (v := 0) (by decide) ?_
  refine v_istoren C dX4_grow_1 (by decide) ?_
  refine v_wk (lp_X4_grow_2 C hI (fun G hsh => ?_) FU _ _ hsh) (wk_of (And.intro rfl (And.intro rfl trivial)))
  obtain rfl := so_1 hsh
  exact v_vret C dX4_grow_68
theorem yo_X4_grow : yOk yX4_grow 0 := ⟨by decide, by decide, by decide +kernel⟩

def sh_X4_blink_4  (kt100 : Int32 → gG → Option (Int32 × gG)) : Nat → Int32 → Int32 → Int32 → gG → Option (Int32 × gG)
  | 0, _, _, _, _ => none
  | n + 1, l1, l2, l3, G => (if (16 : Int32) ≤ l3 then kt100 l2 G else (if (sh_X4_has l1 l3) = (0 : Int32) then sh_X4_blink_4 kt100 n l1 l2 (l3 + 1) G else (obp (sh_X4_isOn l3 G) fun r2 => (if r2 = (0 : Int32) then sh_X4_blink_4 kt100 n l1 l2 (l3 + 1) G else (obp (sh_X4_of l3 (1 : Int32) G) fun r4 => (obp (sh_X4_round G) fun r6 => (if r4 < r6 then sh_X4_blink_4 kt100 n l1 l2 (l3 + 1) G else (obv (sh_X4_put l3 (1 : Int32) (0 : Int32) G) fun G8 => (obv (sh_X4_put l3 (4 : Int32) (G8 72 ((7 : Int32)).toNatClampNeg) G8) fun G10 => (obp (sh_X4_of l3 (5 : Int32) G10) fun r12 => (obv (sh_X4_put l3 (5 : Int32) (r12 + (1 : Int32)) G10) fun G14 => (obv (sh_X4_put l3 (6 : Int32) ((G14 72 ((0 : Int32)).toNatClampNeg) + (1 : Int32)) G14) fun G16 => sh_X4_blink_4 kt100 n l1 (l2 ||| ((1 : Int32) <<< (l3 &&& 31))) (l3 + 1) G16))))))))))))
def sh_X4_blink (l1 : Int32) (G : gG) : Option (Int32 × gG) := (sh_X4_blink_4 (fun l2 G => some (l2, G)) FU l1 (0 : Int32) (0 : Int32) G)
set_option maxRecDepth 100000 in
set_option maxHeartbeats 4000000 in
theorem lp_X4_blink_4 {p : Program} {l : Launch} {e : Env} {s : State} {m : MethodId} {args : Array Value} {below : List Frame} {meth : Method} {c : Code} {D : va_G} {t : gT} {ad : Nat → Nat} (C : gC p s m args meth c cX4_blink RX4 4 (some .int) (isW ad) D t ad) (hI : gI ad) {r0 : Int32} {G0 : gG} {kt100 : Int32 → gG → Option (Int32 × gG)} (hk100 : ∀ (l2 : Int32) (G : gG) , kt100 l2 G = some (r0, G0) → V p l e (rM 2 43) s m args below meth c (isW ad) D t ad 0 0 4 (Qi below D t ad args s r0 G0) G 100 [none, none, some (.int l2), none] []) : ∀ (n : Nat) (l1 : Int32) (l2 : Int32) (l3 : Int32) (G : gG) , sh_X4_blink_4 kt100 n l1 l2 l3 G = some (r0, G0) → V p l e (rM 2 43) s m args below meth c (isW ad) D t ad 0 0 4 (Qi below D t ad args s r0 G0) G 4 [some (.ref (ad 71)), some (.int l1), some (.int l2), some (.int l3)] [] := by
  intro n
  induction n with
  | zero => intro l1 l2 l3 G hsh; rw [sh_X4_blink_4.eq_1] at hsh; cases hsh
  | succ n ih =>
    intro l1 l2 l3 G hsh
    rw [sh_X4_blink_4.eq_2] at hsh
    refine v_iloadn C dX4_blink_4 rfl ?_
    refine v_bipush C dX4_blink_5 (v := 16) (by decide) ?_
    refine v_ic_ge C 100 dX4_blink_7 (by decide) (fun hc => ?_) (fun hc => ?_)
    · replace hsh := ite_p hc hsh
      exact v_wk (hk100 _ _ hsh) (wk_of (And.intro rfl trivial))
    · replace hsh := ite_n hc hsh
      refine v_iloadn C dX4_blink_10 rfl ?_
      refine v_iloadn C dX4_blink_11 rfl ?_
      refine v_callS (nP := 2) C (c_X4_has l D t ad hI  (G := G) rfl) k633 k631 k632 k5 yo_X4_has ⟨Nat.le_of_ble_eq_true rfl, Nat.le_of_ble_eq_true rfl, rfl, rfl, Nat.zero_le _, Nat.zero_le _⟩ rfl rfl (Nat.le_of_ble_eq_true rfl) dX4_blink_12 ?_
      refine v_if_eq C 94 dX4_blink_15 (by decide) (fun hc => ?_) (fun hc => ?_)
      · replace hsh := ite_p hc hsh
        refine v_iinc C dX4_blink_94 rfl (v := 1) (by decide) (by decide) ?_
        refine v_goto C 4 dX4_blink_97 (by decide) ?_
        exact v_wk (ih _ _ _ _ hsh) (wk_of (And.intro rfl (And.intro rfl (And.intro rfl (And.intro rfl trivial)))))
      · replace hsh := ite_n hc hsh
        refine v_aloadn C dX4_blink_18 rfl ?_
        refine v_iloadn C dX4_blink_19 rfl ?_
        obtain ⟨r2, e1, hsh⟩ := obp_e hsh
        refine v_callI (nP := 1) (k := 71) C (by decide) rfl rfl (c_X4_isOn l D t ad hI  e1) k618 k615 k617 kp26 k5 yo_X4_isOn ⟨Nat.le_of_ble_eq_true rfl, Nat.le_of_ble_eq_true rfl, rfl, rfl, Nat.zero_le _, Nat.zero_le _⟩ rfl rfl (Nat.le_of_ble_eq_true rfl) dX4_blink_20 ?_
        refine v_if_eq C 94 dX4_blink_23 (by decide) (fun hc => ?_) (fun hc => ?_)
        · replace hsh := ite_p hc hsh
          refine v_iinc C dX4_blink_94 rfl (v := 1) (by decide) (by decide) ?_
          refine v_goto C 4 dX4_blink_97 (by decide) ?_
          exact v_wk (ih _ _ _ _ hsh) (wk_of (And.intro rfl (And.intro rfl (And.intro rfl (And.intro rfl trivial)))))
        · replace hsh := ite_n hc hsh
          refine v_aloadn C dX4_blink_26 rfl ?_
          refine v_iloadn C dX4_blink_27 rfl ?_
          refine v_iconst C dX4_blink_28 (v := 1) (by decide) ?_
          obtain ⟨r4, e3, hsh⟩ := obp_e hsh
          refine v_callI (nP := 2) (k := 71) C (by decide) rfl rfl (c_X4_of l D t ad hI  e3) k580 k577 k579 kp20 k5 yo_X4_of ⟨Nat.le_of_ble_eq_true rfl, Nat.le_of_ble_eq_true rfl, rfl, rfl, Nat.zero_le _, Nat.zero_le _⟩ rfl rfl (Nat.le_of_ble_eq_true rfl) dX4_blink_29 ?_
          refine v_aloadn C dX4_blink_32 rfl ?_
          obtain ⟨r6, e5, hsh⟩ := obp_e hsh
          refine v_callI (nP := 0) (k := 71) C (by decide) rfl rfl (c_X4_round l D t ad hI  e5) k599 k596 k598 kp24 k5 yo_X4_round ⟨Nat.le_of_ble_eq_true rfl, Nat.le_of_ble_eq_true rfl, rfl, rfl, Nat.zero_le _, Nat.zero_le _⟩ rfl rfl (Nat.le_of_ble_eq_true rfl) dX4_blink_33 ?_
          refine v_ic_lt C 94 dX4_blink_36 (by decide) (fun hc => ?_) (fun hc => ?_)
          · replace hsh := ite_p hc hsh
            refine v_iinc C dX4_blink_94 rfl (v := 1) (by decide) (by decide) ?_
            refine v_goto C 4 dX4_blink_97 (by decide) ?_
            exact v_wk (ih _ _ _ _ hsh) (wk_of (And.intro rfl (And.intro rfl (And.intro rfl (And.intro rfl trivial)))))
          · replace hsh := ite_n hc hsh
            refine v_iloadn C dX4_blink_39 rfl ?_
            refine v_iconst C dX4_blink_40 (v := 1) (by decide) ?_
            refine v_iloadn C dX4_blink_41 rfl ?_
            refine v_ishl C dX4_blink_42 ?_
            refine v_ior C dX4_blink_43 ?_
            refine v_istoren C dX4_blink_44 (by decide) ?_
            refine v_aloadn C dX4_blink_45 rfl ?_
            refine v_iloadn C dX4_blink_46 rfl ?_
            refine v_iconst C dX4_blink_47 (v := 1) (by decide) ?_
            refine v_iconst C dX4_blink_48 (v := 0) (by decide) ?_
            obtain ⟨G8, e7, hsh⟩ := obv_e hsh
            refine v_callV (nP := 3) (k := 71) C (by decide) rfl rfl (c_X4_put l D t ad hI  e7) k595 k592 k594 kp23 k5 yo_X4_put ⟨Nat.le_of_ble_eq_true rfl, Nat.le_of_ble_eq_true rfl, rfl, rfl, Nat.zero_le _, Nat.zero_le _⟩ rfl rfl (Nat.le_of_ble_eq_true rfl) dX4_blink_49 ?_
            refine v_aloadn C dX4_blink_52 rfl ?_
            refine v_iloadn C dX4_blink_53 rfl ?_
            refine v_iconst C dX4_blink_54 (v := 4) (by decide) ?_
            refine v_aloadn C dX4_blink_55 rfl ?_
            refine f4_0 C dX4_blink_56 ?_
            refine v_bipush C dX4_blink_59 (v := 7) (by decide) ?_
            refine v_ld C (k := 72) (by decide) rfl (gin_in (by decide)) dX4_blink_61 ?_
            obtain ⟨G10, e9, hsh⟩ := obv_e hsh
            refine v_callV (nP := 3) (k := 71) C (by decide) rfl rfl (c_X4_put l D t ad hI  e9) k595 k592 k594 kp23 k5 yo_X4_put ⟨Nat.le_of_ble_eq_true rfl, Nat.le_of_ble_eq_true rfl, rfl, rfl, Nat.zero_le _, Nat.zero_le _⟩ rfl rfl (Nat.le_of_ble_eq_true rfl) dX4_blink_62 ?_
            refine v_aloadn C dX4_blink_65 rfl ?_
            refine v_iloadn C dX4_blink_66 rfl ?_
            refine v_iconst C dX4_blink_67 (v := 5) (by decide) ?_
            refine v_aloadn C dX4_blink_68 rfl ?_
            refine v_iloadn C dX4_blink_69 rfl ?_
            refine v_iconst C dX4_blink_70 (v := 5) (by decide) ?_
            obtain ⟨r12, e11, hsh⟩ := obp_e hsh
            refine v_callI (nP := 2) (k := 71) C (by decide) rfl rfl (c_X4_of l D t ad hI  e11) k580 k577 k579 kp20 k5 yo_X4_of ⟨Nat.le_of_ble_eq_true rfl, Nat.le_of_ble_eq_true rfl, rfl, rfl, Nat.zero_le _, Nat.zero_le _⟩ rfl rfl (Nat.le_of_ble_eq_true rfl) dX4_blink_71 ?_
            refine v_iconst C dX4_blink_74 (v := 1) (by decide) ?_
            refine v_iadd C dX4_blink_75 ?_
            obtain ⟨G14, e13, hsh⟩ := obv_e hsh
            refine v_callV (nP := 3) (k := 71) C (by decide) rfl rfl (c_X4_put l D t ad hI  e13) k595 k592 k594 kp23 k5 yo_X4_put ⟨Nat.le_of_ble_eq_true rfl, Nat.le_of_ble_eq_true rfl, rfl, rfl, Nat.zero_le _, Nat.zero_le _⟩ rfl rfl (Nat.le_of_ble_eq_true rfl) dX4_blink_76 ?_
            refine v_aloadn C dX4_blink_79 rfl ?_
            refine v_iloadn C dX4_blink_80 rfl ?_
            refine v_bipush C dX4_blink_81 (v := 6) (by decide) ?_
            refine v_aloadn C dX4_blink_83 rfl ?_
            refine f4_0 C dX4_blink_84 ?_
            refine v_iconst C dX4_blink_87 (v := 0) (by decide) ?_
            refine v_ld C (k := 72) (by decide) rfl (gin_in (by decide)) dX4_blink_88 ?_
            refine v_iconst C dX4_blink_89 (v := 1) (by decide) ?_
            refine v_iadd C dX4_blink_90 ?_
            obtain ⟨G16, e15, hsh⟩ := obv_e hsh
            refine v_callV (nP := 3) (k := 71) C (by decide) rfl rfl (c_X4_put l D t ad hI  e15) k595 k592 k594 kp23 k5 yo_X4_put ⟨Nat.le_of_ble_eq_true rfl, Nat.le_of_ble_eq_true rfl, rfl, rfl, Nat.zero_le _, Nat.zero_le _⟩ rfl rfl (Nat.le_of_ble_eq_true rfl) dX4_blink_91 ?_
            refine v_iinc C dX4_blink_94 rfl (v := 1) (by decide) (by decide) ?_
            refine v_goto C 4 dX4_blink_97 (by decide) ?_
            exact v_wk (ih _ _ _ _ hsh) (wk_of (And.intro rfl (And.intro rfl (And.intro rfl (And.intro rfl trivial)))))
set_option maxRecDepth 100000 in
set_option maxHeartbeats 4000000 in
theorem c_X4_blink (l : Launch) (D : va_G) (t : gT) (ad : Nat → Nat) (hI : gI ad) {l1 : Int32} {G : gG} {r0 : Int32} {G0 : gG} (hsh : sh_X4_blink l1 G = some (r0, G0)) : Mi l D t ad yX4_blink cX4_blink 4 (some .int) (rM 2 43) [.ref (ad 71), .int l1] G r0 G0 := by
  refine m_go hI RX4 rfl (by decide +kernel) ⟨rfl, rfl⟩ (Nat.le_of_ble_eq_true rfl) rfl [some (.ref (ad 71)), some (.int l1), none, none] rfl (fun p e s m args below meth c C => ?_)
  unfold sh_X4_blink at hsh
  refine v_iconst C dX4_blink_0 (v := 0) (by decide) ?_
  refine v_istoren C dX4_blink_1 (by decide) ?_
  refine v_iconst C dX4_blink_2 (v := 0) (by decide) ?_
  refine v_istoren C dX4_blink_3 (by decide) ?_
  refine v_wk (lp_X4_blink_4 C hI (fun l2 G hsh => ?_) FU _ _ _ _ hsh) (wk_of (And.intro rfl (And.intro rfl (And.intro rfl (And.intro rfl trivial)))))
  refine v_iloadn C dX4_blink_100 rfl ?_
  obtain ⟨rfl, rfl⟩ := so_i hsh
  exact v_iret C dX4_blink_101
theorem yo_X4_blink : yOk yX4_blink 1 := ⟨by decide, by decide, by decide +kernel⟩

def sh_X4_push_j118 (kt162 : Int32 → Int32 → Int32 → Int32 → gG → Option (Int32 × gG)) (self63 : Int32 → Int32 → Int32 → Int32 → Int32 → gG → Option (Int32 × gG)) (l1 : Int32) (l2 : Int32) (l3 : Int32) (l4 : Int32) (l6 : Int32) (x1 : Int32) (x2 : Int32) (x3 : Int32) (G : gG) : Option (Int32 × gG) := (obv (sh_X4_put x1 x2 x3 G) fun G12 => (obp (sh_X4_of l4 (7 : Int32) G12) fun r14 => (obv (sh_X4_put l4 (7 : Int32) (r14 + (1 : Int32)) G12) fun G16 => (bng (gu G16 72 ((2 : Int32)).toNatClampNeg ((G16 72 ((2 : Int32)).toNatClampNeg) + (1 : Int32))) fun G17 => self63 l1 l2 (l3 ||| ((1 : Int32) <<< (l4 &&& 31))) l4 (l6 + (-1)) G17))))
def sh_X4_push_63  (kt162 : Int32 → Int32 → Int32 → Int32 → gG → Option (Int32 × gG)) : Nat → Int32 → Int32 → Int32 → Int32 → Int32 → gG → Option (Int32 × gG)
  | 0, _, _, _, _, _, _ => none
  | n + 1, l1, l2, l3, l4, l6, G => (if l6 ≤ (0 : Int32) then kt162 l1 l2 l3 l4 G else (obp (sh_X4_of l4 (1 : Int32) G) fun r4 => (obp (sh_X4_of l4 (1 : Int32) G) fun r6 => (bni (r4 + ((r6 * (G 72 ((6 : Int32)).toNatClampNeg)) / (100 : Int32))) fun z7 => (obp (sh_X4_round G) fun r10 => (if z7 ≤ r10 then (sh_X4_push_j118 kt162 (sh_X4_push_63 kt162 n) l1 l2 l3 l4 l6 l4 (1 : Int32) z7 G) else (obp (sh_X4_round G) fun r20 => (sh_X4_push_j118 kt162 (sh_X4_push_63 kt162 n) l1 l2 l3 l4 l6 l4 (1 : Int32) r20 G))))))))
def sh_X4_push_j54 (kt168 : Int32 → gG → Option (Int32 × gG)) (self5 : Int32 → Int32 → Int32 → Int32 → gG → Option (Int32 × gG)) (l1 : Int32) (l2 : Int32) (l3 : Int32) (l4 : Int32) (x0 : Int32) (G : gG) : Option (Int32 × gG) := (obp (sh_X4_bits x0) fun r2 => (sh_X4_push_63 (fun l1 l2 l3 l4 G => self5 l1 l2 l3 (l4 + 1) G) FU l1 l2 l3 l4 r2 G))
def sh_X4_push_j40 (kt168 : Int32 → gG → Option (Int32 × gG)) (self5 : Int32 → Int32 → Int32 → Int32 → gG → Option (Int32 × gG)) (l1 : Int32) (l2 : Int32) (l3 : Int32) (l4 : Int32) (G : gG) : Option (Int32 × gG) := (sh_X4_push_j54 kt168 self5 l1 l2 l3 l4 (0 : Int32) G)
def sh_X4_push_5  (kt168 : Int32 → gG → Option (Int32 × gG)) : Nat → Int32 → Int32 → Int32 → Int32 → gG → Option (Int32 × gG)
  | 0, _, _, _, _, _ => none
  | n + 1, l1, l2, l3, l4, G => (if (16 : Int32) ≤ l4 then kt168 l3 G else (if (sh_X4_has l2 l4) = (0 : Int32) then (obp (sh_X4_isOn l4 G) fun r22 => (if r22 = (0 : Int32) then (sh_X4_push_j40 kt168 (sh_X4_push_5 kt168 n) l1 l2 l3 l4 G) else (obp (sh_X4_of l4 (4 : Int32) G) fun r24 => (if r24 ≤ (0 : Int32) then (obp (sh_X4_of l4 (8 : Int32) G) fun r26 => (sh_X4_push_j54 kt168 (sh_X4_push_5 kt168 n) l1 l2 l3 l4 (r26 &&& l1) G)) else (sh_X4_push_j40 kt168 (sh_X4_push_5 kt168 n) l1 l2 l3 l4 G))))) else (sh_X4_push_j40 kt168 (sh_X4_push_5 kt168 n) l1 l2 l3 l4 G)))
def sh_X4_push (l1 : Int32) (l2 : Int32) (G : gG) : Option (Int32 × gG) := (sh_X4_push_5 (fun l3 G => some (l3, G)) FU l1 l2 (0 : Int32) (0 : Int32) G)
set_option maxRecDepth 100000 in
set_option maxHeartbeats 4000000 in
theorem lp_X4_push_63 {p : Program} {l : Launch} {e : Env} {s : State} {m : MethodId} {args : Array Value} {below : List Frame} {meth : Method} {c : Code} {D : va_G} {t : gT} {ad : Nat → Nat} (C : gC p s m args meth c cX4_push RX4 8 (some .int) (isW ad) D t ad) (hI : gI ad) {r0 : Int32} {G0 : gG} {kt162 : Int32 → Int32 → Int32 → Int32 → gG → Option (Int32 × gG)} (hk162 : ∀ (l1 : Int32) (l2 : Int32) (l3 : Int32) (l4 : Int32) (G : gG) , kt162 l1 l2 l3 l4 G = some (r0, G0) → V p l e (rM 2 43) s m args below meth c (isW ad) D t ad 0 0 8 (Qi below D t ad args s r0 G0) G 162 [some (.ref (ad 71)), some (.int l1), some (.int l2), some (.int l3), some (.int l4), none, none, none] []) : ∀ (n : Nat) (l1 : Int32) (l2 : Int32) (l3 : Int32) (l4 : Int32) (l6 : Int32) (G : gG) , sh_X4_push_63 kt162 n l1 l2 l3 l4 l6 G = some (r0, G0) → V p l e (rM 2 43) s m args below meth c (isW ad) D t ad 0 0 8 (Qi below D t ad args s r0 G0) G 63 [some (.ref (ad 71)), some (.int l1), some (.int l2), some (.int l3), some (.int l4), none, some (.int l6), none] [] := by
  intro n
  induction n with
  | zero => intro l1 l2 l3 l4 l6 G hsh; rw [sh_X4_push_63.eq_1] at hsh; cases hsh
  | succ n ih =>
    intro l1 l2 l3 l4 l6 G hsh
    rw [sh_X4_push_63.eq_2] at hsh
    have hj118 : ∀ (l1 : Int32) (l2 : Int32) (l3 : Int32) (l4 : Int32) (l6 : Int32) (x1 : Int32) (x2 : Int32) (x3 : Int32) (G : gG) , sh_X4_push_j118 kt162 (sh_X4_push_63 kt162 n) l1 l2 l3 l4 l6 x1 x2 x3 G = some (r0, G0) → V p l e (rM 2 43) s m args below meth c (isW ad) D t ad 0 0 8 (Qi below D t ad args s r0 G0) G 118 [some (.ref (ad 71)), some (.int l1), some (.int l2), some (.int l3), some (.int l4), none, some (.int l6), none] [.int x3, .int x2, .int x1, .ref (ad 71)] := by
      intro l1 l2 l3 l4 l6 x1 x2 x3 G hsh
      unfold sh_X4_push_j118 at hsh
      obtain ⟨G12, e11, hsh⟩ := obv_e hsh
      refine v_callV (nP := 3) (k := 71) C (by decide) rfl rfl (c_X4_put l D t ad hI  e11) k595 k592 k594 kp23 k5 yo_X4_put ⟨Nat.le_of_ble_eq_true rfl, Nat.le_of_ble_eq_true rfl, rfl, rfl, Nat.zero_le _, Nat.zero_le _⟩ rfl rfl (Nat.le_of_ble_eq_true rfl) dX4_push_118 ?_
      refine v_aloadn C dX4_push_121 rfl ?_
      refine v_iload C dX4_push_122 rfl ?_
      refine v_bipush C dX4_push_124 (v := 7) (by decide) ?_
      refine v_aloadn C dX4_push_126 rfl ?_
      refine v_iload C dX4_push_127 rfl ?_
      refine v_bipush C dX4_push_129 (v := 7) (by decide) ?_
      obtain ⟨r14, e13, hsh⟩ := obp_e hsh
      refine v_callI (nP := 2) (k := 71) C (by decide) rfl rfl (c_X4_of l D t ad hI  e13) k580 k577 k579 kp20 k5 yo_X4_of ⟨Nat.le_of_ble_eq_true rfl, Nat.le_of_ble_eq_true rfl, rfl, rfl, Nat.zero_le _, Nat.zero_le _⟩ rfl rfl (Nat.le_of_ble_eq_true rfl) dX4_push_131 ?_
      refine v_iconst C dX4_push_134 (v := 1) (by decide) ?_
      refine v_iadd C dX4_push_135 ?_
      obtain ⟨G16, e15, hsh⟩ := obv_e hsh
      refine v_callV (nP := 3) (k := 71) C (by decide) rfl rfl (c_X4_put l D t ad hI  e15) k595 k592 k594 kp23 k5 yo_X4_put ⟨Nat.le_of_ble_eq_true rfl, Nat.le_of_ble_eq_true rfl, rfl, rfl, Nat.zero_le _, Nat.zero_le _⟩ rfl rfl (Nat.le_of_ble_eq_true rfl) dX4_push_136 ?_
      refine v_aloadn C dX4_push_139 rfl ?_
      refine f4_0 C dX4_push_140 ?_
      refine v_iconst C dX4_push_143 (v := 2) (by decide) ?_
      refine v_dup2 C dX4_push_144 rfl rfl ?_
      refine v_ld C (k := 72) (by decide) rfl (gin_in (by decide)) dX4_push_145 ?_
      refine v_iconst C dX4_push_146 (v := 1) (by decide) ?_
      refine v_iadd C dX4_push_147 ?_
      refine v_st C (k := 72) (by decide) (fun _ => rfl) (gin_in (by decide)) dX4_push_148 ?_
      obtain ⟨G17, e18, hsh⟩ := bng_e hsh
      refine v_bg e18 ?_
      refine v_iloadn C dX4_push_149 rfl ?_
      refine v_iconst C dX4_push_150 (v := 1) (by decide) ?_
      refine v_iload C dX4_push_151 rfl ?_
      refine v_ishl C dX4_push_153 ?_
      refine v_ior C dX4_push_154 ?_
      refine v_istoren C dX4_push_155 (by decide) ?_
      refine v_iinc C dX4_push_156 rfl (v := -1) (by decide) (by decide) ?_
      refine v_goto C 63 dX4_push_159 (by decide) ?_
      exact v_wk (ih _ _ _ _ _ _ hsh) (wk_of (And.intro rfl (And.intro rfl (And.intro rfl (And.intro rfl (And.intro rfl (And.intro rfl trivial)))))))
    refine v_iload C dX4_push_63 rfl ?_
    refine v_if_le C 162 dX4_push_65 (by decide) (fun hc => ?_) (fun hc => ?_)
    · replace hsh := ite_p hc hsh
      exact v_wk (hk162 _ _ _ _ _ hsh) (wk_of (And.intro rfl (And.intro rfl (And.intro rfl (And.intro rfl (And.intro rfl trivial))))))
    · replace hsh := ite_n hc hsh
      refine v_aloadn C dX4_push_68 rfl ?_
      refine v_iload C dX4_push_69 rfl ?_
      refine v_iconst C dX4_push_71 (v := 1) (by decide) ?_
      obtain ⟨r4, e3, hsh⟩ := obp_e hsh
      refine v_callI (nP := 2) (k := 71) C (by decide) rfl rfl (c_X4_of l D t ad hI  e3) k580 k577 k579 kp20 k5 yo_X4_of ⟨Nat.le_of_ble_eq_true rfl, Nat.le_of_ble_eq_true rfl, rfl, rfl, Nat.zero_le _, Nat.zero_le _⟩ rfl rfl (Nat.le_of_ble_eq_true rfl) dX4_push_72 ?_
      refine v_aloadn C dX4_push_75 rfl ?_
      refine v_iload C dX4_push_76 rfl ?_
      refine v_iconst C dX4_push_78 (v := 1) (by decide) ?_
      obtain ⟨r6, e5, hsh⟩ := obp_e hsh
      refine v_callI (nP := 2) (k := 71) C (by decide) rfl rfl (c_X4_of l D t ad hI  e5) k580 k577 k579 kp20 k5 yo_X4_of ⟨Nat.le_of_ble_eq_true rfl, Nat.le_of_ble_eq_true rfl, rfl, rfl, Nat.zero_le _, Nat.zero_le _⟩ rfl rfl (Nat.le_of_ble_eq_true rfl) dX4_push_79 ?_
      refine v_aloadn C dX4_push_82 rfl ?_
      refine f4_0 C dX4_push_83 ?_
      refine v_bipush C dX4_push_86 (v := 6) (by decide) ?_
      refine v_ld C (k := 72) (by decide) rfl (gin_in (by decide)) dX4_push_88 ?_
      refine v_imul C dX4_push_89 ?_
      refine v_bipush C dX4_push_90 (v := 100) (by decide) ?_
      refine v_idiv C dX4_push_92 (by decide) ?_
      refine v_iadd C dX4_push_93 ?_
      obtain ⟨z7, e8, hsh⟩ := bni_e hsh
      refine v_bi e8 ?_
      refine v_istore C dX4_push_94 (by decide) ?_
      refine v_aloadn C dX4_push_96 rfl ?_
      refine v_iload C dX4_push_97 rfl ?_
      refine v_iconst C dX4_push_99 (v := 1) (by decide) ?_
      refine v_iload C dX4_push_100 rfl ?_
      refine v_aloadn C dX4_push_102 rfl ?_
      obtain ⟨r10, e9, hsh⟩ := obp_e hsh
      refine v_callI (nP := 0) (k := 71) C (by decide) rfl rfl (c_X4_round l D t ad hI  e9) k599 k596 k598 kp24 k5 yo_X4_round ⟨Nat.le_of_ble_eq_true rfl, Nat.le_of_ble_eq_true rfl, rfl, rfl, Nat.zero_le _, Nat.zero_le _⟩ rfl rfl (Nat.le_of_ble_eq_true rfl) dX4_push_103 ?_
      refine v_ic_le C 116 dX4_push_106 (by decide) (fun hc => ?_) (fun hc => ?_)
      · replace hsh := ite_p hc hsh
        refine v_iload C dX4_push_116 rfl ?_
        exact v_wk (hj118 _ _ _ _ _ _ _ _ _ hsh) (wk_of (And.intro rfl (And.intro rfl (And.intro rfl (And.intro rfl (And.intro rfl (And.intro rfl trivial)))))))
      · replace hsh := ite_n hc hsh
        refine v_aloadn C dX4_push_109 rfl ?_
        obtain ⟨r20, e19, hsh⟩ := obp_e hsh
        refine v_callI (nP := 0) (k := 71) C (by decide) rfl rfl (c_X4_round l D t ad hI  e19) k599 k596 k598 kp24 k5 yo_X4_round ⟨Nat.le_of_ble_eq_true rfl, Nat.le_of_ble_eq_true rfl, rfl, rfl, Nat.zero_le _, Nat.zero_le _⟩ rfl rfl (Nat.le_of_ble_eq_true rfl) dX4_push_110 ?_
        refine v_goto C 118 dX4_push_113 (by decide) ?_
        exact v_wk (hj118 _ _ _ _ _ _ _ _ _ hsh) (wk_of (And.intro rfl (And.intro rfl (And.intro rfl (And.intro rfl (And.intro rfl (And.intro rfl trivial)))))))
set_option maxRecDepth 100000 in
set_option maxHeartbeats 4000000 in
theorem lp_X4_push_5 {p : Program} {l : Launch} {e : Env} {s : State} {m : MethodId} {args : Array Value} {below : List Frame} {meth : Method} {c : Code} {D : va_G} {t : gT} {ad : Nat → Nat} (C : gC p s m args meth c cX4_push RX4 8 (some .int) (isW ad) D t ad) (hI : gI ad) {r0 : Int32} {G0 : gG} {kt168 : Int32 → gG → Option (Int32 × gG)} (hk168 : ∀ (l3 : Int32) (G : gG) , kt168 l3 G = some (r0, G0) → V p l e (rM 2 43) s m args below meth c (isW ad) D t ad 0 0 8 (Qi below D t ad args s r0 G0) G 168 [none, none, none, some (.int l3), none, none, none, none] []) : ∀ (n : Nat) (l1 : Int32) (l2 : Int32) (l3 : Int32) (l4 : Int32) (G : gG) , sh_X4_push_5 kt168 n l1 l2 l3 l4 G = some (r0, G0) → V p l e (rM 2 43) s m args below meth c (isW ad) D t ad 0 0 8 (Qi below D t ad args s r0 G0) G 5 [some (.ref (ad 71)), some (.int l1), some (.int l2), some (.int l3), some (.int l4), none, none, none] [] := by
  intro n
  induction n with
  | zero => intro l1 l2 l3 l4 G hsh; rw [sh_X4_push_5.eq_1] at hsh; cases hsh
  | succ n ih =>
    intro l1 l2 l3 l4 G hsh
    rw [sh_X4_push_5.eq_2] at hsh
    have hj54 : ∀ (l1 : Int32) (l2 : Int32) (l3 : Int32) (l4 : Int32) (x0 : Int32) (G : gG) , sh_X4_push_j54 kt168 (sh_X4_push_5 kt168 n) l1 l2 l3 l4 x0 G = some (r0, G0) → V p l e (rM 2 43) s m args below meth c (isW ad) D t ad 0 0 8 (Qi below D t ad args s r0 G0) G 54 [some (.ref (ad 71)), some (.int l1), some (.int l2), some (.int l3), some (.int l4), none, none, none] [.int x0] := by
      intro l1 l2 l3 l4 x0 G hsh
      unfold sh_X4_push_j54 at hsh
      refine v_istore C dX4_push_54 (by decide) ?_
      refine v_iload C dX4_push_56 rfl ?_
      obtain ⟨r2, e1, hsh⟩ := obp_e hsh
      refine v_callS (nP := 1) C (c_X4_bits l D t ad hI  (G := G) e1) k610 k608 k609 k5 yo_X4_bits ⟨Nat.le_of_ble_eq_true rfl, Nat.le_of_ble_eq_true rfl, rfl, rfl, Nat.zero_le _, Nat.zero_le _⟩ rfl rfl (Nat.le_of_ble_eq_true rfl) dX4_push_58 ?_
      refine v_istore C dX4_push_61 (by decide) ?_
      refine v_wk (lp_X4_push_63 C hI (fun l1 l2 l3 l4 G hsh => ?_) FU _ _ _ _ _ _ hsh) (wk_of (And.intro rfl (And.intro rfl (And.intro rfl (And.intro rfl (And.intro rfl (And.intro rfl trivial)))))))
      refine v_iinc C dX4_push_162 rfl (v := 1) (by decide) (by decide) ?_
      refine v_goto C 5 dX4_push_165 (by decide) ?_
      exact v_wk (ih _ _ _ _ _ hsh) (wk_of (And.intro rfl (And.intro rfl (And.intro rfl (And.intro rfl (And.intro rfl trivial))))))
    have hj40 : ∀ (l1 : Int32) (l2 : Int32) (l3 : Int32) (l4 : Int32) (G : gG) , sh_X4_push_j40 kt168 (sh_X4_push_5 kt168 n) l1 l2 l3 l4 G = some (r0, G0) → V p l e (rM 2 43) s m args below meth c (isW ad) D t ad 0 0 8 (Qi below D t ad args s r0 G0) G 40 [some (.ref (ad 71)), some (.int l1), some (.int l2), some (.int l3), some (.int l4), none, none, none] [] := by
      intro l1 l2 l3 l4 G hsh
      unfold sh_X4_push_j40 at hsh
      refine v_iconst C dX4_push_40 (v := 0) (by decide) ?_
      refine v_goto C 54 dX4_push_41 (by decide) ?_
      exact v_wk (hj54 _ _ _ _ _ _ hsh) (wk_of (And.intro rfl (And.intro rfl (And.intro rfl (And.intro rfl (And.intro rfl trivial))))))
    refine v_iload C dX4_push_5 rfl ?_
    refine v_bipush C dX4_push_7 (v := 16) (by decide) ?_
    refine v_ic_ge C 168 dX4_push_9 (by decide) (fun hc => ?_) (fun hc => ?_)
    · replace hsh := ite_p hc hsh
      exact v_wk (hk168 _ _ hsh) (wk_of (And.intro rfl trivial))
    · replace hsh := ite_n hc hsh
      refine v_iloadn C dX4_push_12 rfl ?_
      refine v_iload C dX4_push_13 rfl ?_
      refine v_callS (nP := 2) C (c_X4_has l D t ad hI  (G := G) rfl) k633 k631 k632 k5 yo_X4_has ⟨Nat.le_of_ble_eq_true rfl, Nat.le_of_ble_eq_true rfl, rfl, rfl, Nat.zero_le _, Nat.zero_le _⟩ rfl rfl (Nat.le_of_ble_eq_true rfl) dX4_push_15 ?_
      refine v_if_ne C 40 dX4_push_18 (by decide) (fun hc => ?_) (fun hc => ?_)
      · replace hsh := ite_n hc hsh
        exact v_wk (hj40 _ _ _ _ _ hsh) (wk_of (And.intro rfl (And.intro rfl (And.intro rfl (And.intro rfl (And.intro rfl trivial))))))
      · replace hsh := ite_p hc hsh
        refine v_aloadn C dX4_push_21 rfl ?_
        refine v_iload C dX4_push_22 rfl ?_
        obtain ⟨r22, e21, hsh⟩ := obp_e hsh
        refine v_callI (nP := 1) (k := 71) C (by decide) rfl rfl (c_X4_isOn l D t ad hI  e21) k618 k615 k617 kp26 k5 yo_X4_isOn ⟨Nat.le_of_ble_eq_true rfl, Nat.le_of_ble_eq_true rfl, rfl, rfl, Nat.zero_le _, Nat.zero_le _⟩ rfl rfl (Nat.le_of_ble_eq_true rfl) dX4_push_24 ?_
        refine v_if_eq C 40 dX4_push_27 (by decide) (fun hc => ?_) (fun hc => ?_)
        · replace hsh := ite_p hc hsh
          exact v_wk (hj40 _ _ _ _ _ hsh) (wk_of (And.intro rfl (And.intro rfl (And.intro rfl (And.intro rfl (And.intro rfl trivial))))))
        · replace hsh := ite_n hc hsh
          refine v_aloadn C dX4_push_30 rfl ?_
          refine v_iload C dX4_push_31 rfl ?_
          refine v_iconst C dX4_push_33 (v := 4) (by decide) ?_
          obtain ⟨r24, e23, hsh⟩ := obp_e hsh
          refine v_callI (nP := 2) (k := 71) C (by decide) rfl rfl (c_X4_of l D t ad hI  e23) k580 k577 k579 kp20 k5 yo_X4_of ⟨Nat.le_of_ble_eq_true rfl, Nat.le_of_ble_eq_true rfl, rfl, rfl, Nat.zero_le _, Nat.zero_le _⟩ rfl rfl (Nat.le_of_ble_eq_true rfl) dX4_push_34 ?_
          refine v_if_le C 44 dX4_push_37 (by decide) (fun hc => ?_) (fun hc => ?_)
          · replace hsh := ite_p hc hsh
            refine v_aloadn C dX4_push_44 rfl ?_
            refine v_iload C dX4_push_45 rfl ?_
            refine v_bipush C dX4_push_47 (v := 8) (by decide) ?_
            obtain ⟨r26, e25, hsh⟩ := obp_e hsh
            refine v_callI (nP := 2) (k := 71) C (by decide) rfl rfl (c_X4_of l D t ad hI  e25) k580 k577 k579 kp20 k5 yo_X4_of ⟨Nat.le_of_ble_eq_true rfl, Nat.le_of_ble_eq_true rfl, rfl, rfl, Nat.zero_le _, Nat.zero_le _⟩ rfl rfl (Nat.le_of_ble_eq_true rfl) dX4_push_49 ?_
            refine v_iloadn C dX4_push_52 rfl ?_
            refine v_iand C dX4_push_53 ?_
            exact v_wk (hj54 _ _ _ _ _ _ hsh) (wk_of (And.intro rfl (And.intro rfl (And.intro rfl (And.intro rfl (And.intro rfl trivial))))))
          · replace hsh := ite_n hc hsh
            exact v_wk (hj40 _ _ _ _ _ hsh) (wk_of (And.intro rfl (And.intro rfl (And.intro rfl (And.intro rfl (And.intro rfl trivial))))))
set_option maxRecDepth 100000 in
set_option maxHeartbeats 4000000 in
theorem c_X4_push (l : Launch) (D : va_G) (t : gT) (ad : Nat → Nat) (hI : gI ad) {l1 : Int32} {l2 : Int32} {G : gG} {r0 : Int32} {G0 : gG} (hsh : sh_X4_push l1 l2 G = some (r0, G0)) : Mi l D t ad yX4_push cX4_push 8 (some .int) (rM 2 43) [.ref (ad 71), .int l1, .int l2] G r0 G0 := by
  refine m_go hI RX4 rfl (by decide +kernel) ⟨rfl, rfl⟩ (Nat.le_of_ble_eq_true rfl) rfl [some (.ref (ad 71)), some (.int l1), some (.int l2), none, none, none, none, none] rfl (fun p e s m args below meth c C => ?_)
  unfold sh_X4_push at hsh
  refine v_iconst C dX4_push_0 (v := 0) (by decide) ?_
  refine v_istoren C dX4_push_1 (by decide) ?_
  refine v_iconst C dX4_push_2 (v := 0) (by decide) ?_
  refine v_istore C dX4_push_3 (by decide) ?_
  refine v_wk (lp_X4_push_5 C hI (fun l3 G hsh => ?_) FU _ _ _ _ _ hsh) (wk_of (And.intro rfl (And.intro rfl (And.intro rfl (And.intro rfl (And.intro rfl trivial))))))
  refine v_iloadn C dX4_push_168 rfl ?_
  obtain ⟨rfl, rfl⟩ := so_i hsh
  exact v_iret C dX4_push_169
theorem yo_X4_push : yOk yX4_push 2 := ⟨by decide, by decide, by decide +kernel⟩

def sh_X4_tick_12  (kt34 : Int32 → gG → Option (Int32 × gG)) : Nat → Int32 → Int32 → gG → Option (Int32 × gG)
  | 0, _, _, _ => none
  | n + 1, l1, l2, G => (if l1 = (0 : Int32) then kt34 l2 G else (obi (sh_X4_push l1 l2 G) fun r7 G8 => (obi (sh_X4_blink r7 G8) fun r10 G11 => sh_X4_tick_12 kt34 n r10 (l2 ||| r10) G11)))
def sh_X4_tick_j76 (l2 : Int32) (l3 : Int32) (x1 : Int32) (x2 : Int32) (x3 : Int32) (G : gG) : Option (Int32 × gG) := (if gin x1 152 = true then (bng (gu G 72 (x1).toNatClampNeg (x2 + x3)) fun G19 => (if l3 ≤ (1 : Int32) then (bng (gu G19 72 ((4 : Int32)).toNatClampNeg (G19 72 ((4 : Int32)).toNatClampNeg)) fun G21 => some (l2, G21)) else (if l3 ≤ (G19 72 ((4 : Int32)).toNatClampNeg) then (bng (gu G19 72 ((4 : Int32)).toNatClampNeg (G19 72 ((4 : Int32)).toNatClampNeg)) fun G23 => some (l2, G23)) else (bng (gu G19 72 ((4 : Int32)).toNatClampNeg l3) fun G25 => some (l2, G25))))) else none)
def sh_X4_tick (G : gG) : Option (Int32 × gG) := (obv (sh_X4_grow G) fun G2 => (obi (sh_X4_blink (-1 : Int32) G2) fun r4 G5 => (sh_X4_tick_12 (fun l2 G => (obp (sh_X4_bits l2) fun r13 => (bng (gu G 72 ((0 : Int32)).toNatClampNeg ((G 72 ((0 : Int32)).toNatClampNeg) + (1 : Int32))) fun G14 => (bng (gu G14 72 ((1 : Int32)).toNatClampNeg ((G14 72 ((1 : Int32)).toNatClampNeg) + r13)) fun G16 => (if r13 ≤ (1 : Int32) then (sh_X4_tick_j76 l2 r13 (3 : Int32) (G16 72 ((3 : Int32)).toNatClampNeg) (0 : Int32) G16) else (sh_X4_tick_j76 l2 r13 (3 : Int32) (G16 72 ((3 : Int32)).toNatClampNeg) (1 : Int32) G16)))))) FU r4 r4 G5)))
set_option maxRecDepth 100000 in
set_option maxHeartbeats 4000000 in
theorem lp_X4_tick_12 {p : Program} {l : Launch} {e : Env} {s : State} {m : MethodId} {args : Array Value} {below : List Frame} {meth : Method} {c : Code} {D : va_G} {t : gT} {ad : Nat → Nat} (C : gC p s m args meth c cX4_tick RX4 4 (some .int) (isW ad) D t ad) (hI : gI ad) {r0 : Int32} {G0 : gG} {kt34 : Int32 → gG → Option (Int32 × gG)} (hk34 : ∀ (l2 : Int32) (G : gG) , kt34 l2 G = some (r0, G0) → V p l e (rM 3 70) s m args below meth c (isW ad) D t ad 0 0 4 (Qi below D t ad args s r0 G0) G 34 [some (.ref (ad 71)), none, some (.int l2), none] []) : ∀ (n : Nat) (l1 : Int32) (l2 : Int32) (G : gG) , sh_X4_tick_12 kt34 n l1 l2 G = some (r0, G0) → V p l e (rM 3 70) s m args below meth c (isW ad) D t ad 0 0 4 (Qi below D t ad args s r0 G0) G 12 [some (.ref (ad 71)), some (.int l1), some (.int l2), none] [] := by
  intro n
  induction n with
  | zero => intro l1 l2 G hsh; rw [sh_X4_tick_12.eq_1] at hsh; cases hsh
  | succ n ih =>
    intro l1 l2 G hsh
    rw [sh_X4_tick_12.eq_2] at hsh
    refine v_iloadn C dX4_tick_12 rfl ?_
    refine v_if_eq C 34 dX4_tick_13 (by decide) (fun hc => ?_) (fun hc => ?_)
    · replace hsh := ite_p hc hsh
      exact v_wk (hk34 _ _ hsh) (wk_of (And.intro rfl (And.intro rfl trivial)))
    · replace hsh := ite_n hc hsh
      refine v_aloadn C dX4_tick_16 rfl ?_
      refine v_aloadn C dX4_tick_17 rfl ?_
      refine v_iloadn C dX4_tick_18 rfl ?_
      refine v_iloadn C dX4_tick_19 rfl ?_
      obtain ⟨r7, G8, e6, hsh⟩ := obi_e hsh
      refine v_callI (nP := 2) (k := 71) C (by decide) rfl rfl (c_X4_push l D t ad hI  e6) k674 k671 k673 kp35 k5 yo_X4_push ⟨Nat.le_of_ble_eq_true rfl, Nat.le_of_ble_eq_true rfl, rfl, rfl, Nat.zero_le _, Nat.zero_le _⟩ rfl rfl (Nat.le_of_ble_eq_true rfl) dX4_tick_20 ?_
      obtain ⟨r10, G11, e9, hsh⟩ := obi_e hsh
      refine v_callI (nP := 1) (k := 71) C (by decide) rfl rfl (c_X4_blink l D t ad hI  e9) k670 k667 k669 kp34 k5 yo_X4_blink ⟨Nat.le_of_ble_eq_true rfl, Nat.le_of_ble_eq_true rfl, rfl, rfl, Nat.zero_le _, Nat.zero_le _⟩ rfl rfl (Nat.le_of_ble_eq_true rfl) dX4_tick_23 ?_
      refine v_istoren C dX4_tick_26 (by decide) ?_
      refine v_iloadn C dX4_tick_27 rfl ?_
      refine v_iloadn C dX4_tick_28 rfl ?_
      refine v_ior C dX4_tick_29 ?_
      refine v_istoren C dX4_tick_30 (by decide) ?_
      refine v_goto C 12 dX4_tick_31 (by decide) ?_
      exact v_wk (ih _ _ _ hsh) (wk_of (And.intro rfl (And.intro rfl (And.intro rfl trivial))))
set_option maxRecDepth 100000 in
set_option maxHeartbeats 4000000 in
theorem c_X4_tick (l : Launch) (D : va_G) (t : gT) (ad : Nat → Nat) (hI : gI ad) {G : gG} {r0 : Int32} {G0 : gG} (hsh : sh_X4_tick G = some (r0, G0)) : Mi l D t ad yX4_tick cX4_tick 4 (some .int) (rM 3 70) [.ref (ad 71)] G r0 G0 := by
  refine m_go hI RX4 rfl (by decide +kernel) ⟨rfl, rfl⟩ (Nat.le_of_ble_eq_true rfl) rfl [some (.ref (ad 71)), none, none, none] rfl (fun p e s m args below meth c C => ?_)
  unfold sh_X4_tick at hsh
  have hj76 : ∀ (l2 : Int32) (l3 : Int32) (x1 : Int32) (x2 : Int32) (x3 : Int32) (G : gG) , sh_X4_tick_j76 l2 l3 x1 x2 x3 G = some (r0, G0) → V p l e (rM 3 70) s m args below meth c (isW ad) D t ad 0 0 4 (Qi below D t ad args s r0 G0) G 76 [some (.ref (ad 71)), none, some (.int l2), some (.int l3)] [.int x3, .int x2, .int x1, .ref (ad 72)] := by
    intro l2 l3 x1 x2 x3 G hsh
    unfold sh_X4_tick_j76 at hsh
    refine v_iadd C dX4_tick_76 ?_
    obtain ⟨h18, hsh⟩ := g_if hsh
    refine v_st C (k := 72) (by decide) (fun _ => rfl) (gin_in h18) dX4_tick_77 ?_
    obtain ⟨G19, e20, hsh⟩ := bng_e hsh
    refine v_bg e20 ?_
    refine v_aloadn C dX4_tick_78 rfl ?_
    refine f4_0 C dX4_tick_79 ?_
    refine v_iconst C dX4_tick_82 (v := 4) (by decide) ?_
    refine v_iloadn C dX4_tick_83 rfl ?_
    refine v_iconst C dX4_tick_84 (v := 1) (by decide) ?_
    refine v_ic_le C 102 dX4_tick_85 (by decide) (fun hc => ?_) (fun hc => ?_)
    · replace hsh := ite_p hc hsh
      refine v_aloadn C dX4_tick_102 rfl ?_
      refine f4_0 C dX4_tick_103 ?_
      refine v_iconst C dX4_tick_106 (v := 4) (by decide) ?_
      refine v_ld C (k := 72) (by decide) rfl (gin_in (by decide)) dX4_tick_107 ?_
      refine v_st C (k := 72) (by decide) (fun _ => rfl) (gin_in (by decide)) dX4_tick_108 ?_
      obtain ⟨G21, e22, hsh⟩ := bng_e hsh
      refine v_bg e22 ?_
      refine v_iloadn C dX4_tick_109 rfl ?_
      obtain ⟨rfl, rfl⟩ := so_i hsh
      exact v_iret C dX4_tick_110
    · replace hsh := ite_n hc hsh
      refine v_iloadn C dX4_tick_88 rfl ?_
      refine v_aloadn C dX4_tick_89 rfl ?_
      refine f4_0 C dX4_tick_90 ?_
      refine v_iconst C dX4_tick_93 (v := 4) (by decide) ?_
      refine v_ld C (k := 72) (by decide) rfl (gin_in (by decide)) dX4_tick_94 ?_
      refine v_ic_le C 102 dX4_tick_95 (by decide) (fun hc => ?_) (fun hc => ?_)
      · replace hsh := ite_p hc hsh
        refine v_aloadn C dX4_tick_102 rfl ?_
        refine f4_0 C dX4_tick_103 ?_
        refine v_iconst C dX4_tick_106 (v := 4) (by decide) ?_
        refine v_ld C (k := 72) (by decide) rfl (gin_in (by decide)) dX4_tick_107 ?_
        refine v_st C (k := 72) (by decide) (fun _ => rfl) (gin_in (by decide)) dX4_tick_108 ?_
        obtain ⟨G23, e24, hsh⟩ := bng_e hsh
        refine v_bg e24 ?_
        refine v_iloadn C dX4_tick_109 rfl ?_
        obtain ⟨rfl, rfl⟩ := so_i hsh
        exact v_iret C dX4_tick_110
      · replace hsh := ite_n hc hsh
        refine v_iloadn C dX4_tick_98 rfl ?_
        refine v_goto C 108 dX4_tick_99 (by decide) ?_
        refine v_st C (k := 72) (by decide) (fun _ => rfl) (gin_in (by decide)) dX4_tick_108 ?_
        obtain ⟨G25, e26, hsh⟩ := bng_e hsh
        refine v_bg e26 ?_
        refine v_iloadn C dX4_tick_109 rfl ?_
        obtain ⟨rfl, rfl⟩ := so_i hsh
        exact v_iret C dX4_tick_110
  refine v_aloadn C dX4_tick_0 rfl ?_
  obtain ⟨G2, e1, hsh⟩ := obv_e hsh
  refine v_callV (nP := 0) (k := 71) C (by decide) rfl rfl (c_X4_grow l D t ad hI  e1) k666 k663 k665 kp33 k5 yo_X4_grow ⟨Nat.le_of_ble_eq_true rfl, Nat.le_of_ble_eq_true rfl, rfl, rfl, Nat.zero_le _, Nat.zero_le _⟩ rfl rfl (Nat.le_of_ble_eq_true rfl) dX4_tick_1 ?_
  refine v_aloadn C dX4_tick_4 rfl ?_
  refine v_iconst C dX4_tick_5 (v := -1) (by decide) ?_
  obtain ⟨r4, G5, e3, hsh⟩ := obi_e hsh
  refine v_callI (nP := 1) (k := 71) C (by decide) rfl rfl (c_X4_blink l D t ad hI  e3) k670 k667 k669 kp34 k5 yo_X4_blink ⟨Nat.le_of_ble_eq_true rfl, Nat.le_of_ble_eq_true rfl, rfl, rfl, Nat.zero_le _, Nat.zero_le _⟩ rfl rfl (Nat.le_of_ble_eq_true rfl) dX4_tick_6 ?_
  refine v_istoren C dX4_tick_9 (by decide) ?_
  refine v_iloadn C dX4_tick_10 rfl ?_
  refine v_istoren C dX4_tick_11 (by decide) ?_
  refine v_wk (lp_X4_tick_12 C hI (fun l2 G hsh => ?_) FU _ _ _ hsh) (wk_of (And.intro rfl (And.intro rfl (And.intro rfl trivial))))
  refine v_iloadn C dX4_tick_34 rfl ?_
  obtain ⟨r13, e12, hsh⟩ := obp_e hsh
  refine v_callS (nP := 1) C (c_X4_bits l D t ad hI  (G := G) e12) k610 k608 k609 k5 yo_X4_bits ⟨Nat.le_of_ble_eq_true rfl, Nat.le_of_ble_eq_true rfl, rfl, rfl, Nat.zero_le _, Nat.zero_le _⟩ rfl rfl (Nat.le_of_ble_eq_true rfl) dX4_tick_35 ?_
  refine v_istoren C dX4_tick_38 (by decide) ?_
  refine v_aloadn C dX4_tick_39 rfl ?_
  refine f4_0 C dX4_tick_40 ?_
  refine v_iconst C dX4_tick_43 (v := 0) (by decide) ?_
  refine v_dup2 C dX4_tick_44 rfl rfl ?_
  refine v_ld C (k := 72) (by decide) rfl (gin_in (by decide)) dX4_tick_45 ?_
  refine v_iconst C dX4_tick_46 (v := 1) (by decide) ?_
  refine v_iadd C dX4_tick_47 ?_
  refine v_st C (k := 72) (by decide) (fun _ => rfl) (gin_in (by decide)) dX4_tick_48 ?_
  obtain ⟨G14, e15, hsh⟩ := bng_e hsh
  refine v_bg e15 ?_
  refine v_aloadn C dX4_tick_49 rfl ?_
  refine f4_0 C dX4_tick_50 ?_
  refine v_iconst C dX4_tick_53 (v := 1) (by decide) ?_
  refine v_dup2 C dX4_tick_54 rfl rfl ?_
  refine v_ld C (k := 72) (by decide) rfl (gin_in (by decide)) dX4_tick_55 ?_
  refine v_iloadn C dX4_tick_56 rfl ?_
  refine v_iadd C dX4_tick_57 ?_
  refine v_st C (k := 72) (by decide) (fun _ => rfl) (gin_in (by decide)) dX4_tick_58 ?_
  obtain ⟨G16, e17, hsh⟩ := bng_e hsh
  refine v_bg e17 ?_
  refine v_aloadn C dX4_tick_59 rfl ?_
  refine f4_0 C dX4_tick_60 ?_
  refine v_iconst C dX4_tick_63 (v := 3) (by decide) ?_
  refine v_dup2 C dX4_tick_64 rfl rfl ?_
  refine v_ld C (k := 72) (by decide) rfl (gin_in (by decide)) dX4_tick_65 ?_
  refine v_iloadn C dX4_tick_66 rfl ?_
  refine v_iconst C dX4_tick_67 (v := 1) (by decide) ?_
  refine v_ic_le C 75 dX4_tick_68 (by decide) (fun hc => ?_) (fun hc => ?_)
  · replace hsh := ite_p hc hsh
    refine v_iconst C dX4_tick_75 (v := 0) (by decide) ?_
    exact v_wk (hj76 _ _ _ _ _ _ hsh) (wk_of (And.intro rfl (And.intro rfl (And.intro rfl trivial))))
  · replace hsh := ite_n hc hsh
    refine v_iconst C dX4_tick_71 (v := 1) (by decide) ?_
    refine v_goto C 76 dX4_tick_72 (by decide) ?_
    exact v_wk (hj76 _ _ _ _ _ _ hsh) (wk_of (And.intro rfl (And.intro rfl (And.intro rfl trivial))))
theorem yo_X4_tick : yOk yX4_tick 0 := ⟨by decide, by decide, by decide +kernel⟩

def sh_X4_goOn_2  (kt18 : gG → Option (gG)) : Nat → Int32 → Int32 → gG → Option (gG)
  | 0, _, _, _ => none
  | n + 1, l1, l2, G => (if l1 ≤ l2 then kt18  G else (obi (sh_X4_tick G) fun r2 G3 => sh_X4_goOn_2 kt18 n l1 (l2 + 1) G3))
def sh_X4_goOn (l1 : Int32) (G : gG) : Option (gG) := (sh_X4_goOn_2 (fun G => some G) FU l1 (0 : Int32) G)
set_option maxRecDepth 100000 in
set_option maxHeartbeats 4000000 in
theorem lp_X4_goOn_2 {p : Program} {l : Launch} {e : Env} {s : State} {m : MethodId} {args : Array Value} {below : List Frame} {meth : Method} {c : Code} {D : va_G} {t : gT} {ad : Nat → Nat} (C : gC p s m args meth c cX4_goOn RX4 3 none (isW ad) D t ad) (hI : gI ad) {G0 : gG} {kt18 : gG → Option (gG)} (hk18 : ∀ (G : gG) , kt18 G = some G0 → V p l e (rM 4 93) s m args below meth c (isW ad) D t ad 0 0 3 (Qv below D t ad args s G0) G 18 [none, none, none] []) : ∀ (n : Nat) (l1 : Int32) (l2 : Int32) (G : gG) , sh_X4_goOn_2 kt18 n l1 l2 G = some G0 → V p l e (rM 4 93) s m args below meth c (isW ad) D t ad 0 0 3 (Qv below D t ad args s G0) G 2 [some (.ref (ad 71)), some (.int l1), some (.int l2)] [] := by
  intro n
  induction n with
  | zero => intro l1 l2 G hsh; rw [sh_X4_goOn_2.eq_1] at hsh; cases hsh
  | succ n ih =>
    intro l1 l2 G hsh
    rw [sh_X4_goOn_2.eq_2] at hsh
    refine v_iloadn C dX4_goOn_2 rfl ?_
    refine v_iloadn C dX4_goOn_3 rfl ?_
    refine v_ic_ge C 18 dX4_goOn_4 (by decide) (fun hc => ?_) (fun hc => ?_)
    · replace hsh := ite_p hc hsh
      exact v_wk (hk18  _ hsh) (wk_of trivial)
    · replace hsh := ite_n hc hsh
      refine v_aloadn C dX4_goOn_7 rfl ?_
      obtain ⟨r2, G3, e1, hsh⟩ := obi_e hsh
      refine v_callI (nP := 0) (k := 71) C (by decide) rfl rfl (c_X4_tick l D t ad hI  e1) k662 k659 k661 kp32 k5 yo_X4_tick ⟨Nat.le_of_ble_eq_true rfl, Nat.le_of_ble_eq_true rfl, rfl, rfl, Nat.zero_le _, Nat.zero_le _⟩ rfl rfl (Nat.le_of_ble_eq_true rfl) dX4_goOn_8 ?_
      refine v_pop C dX4_goOn_11 rfl ?_
      refine v_iinc C dX4_goOn_12 rfl (v := 1) (by decide) (by decide) ?_
      refine v_goto C 2 dX4_goOn_15 (by decide) ?_
      exact v_wk (ih _ _ _ hsh) (wk_of (And.intro rfl (And.intro rfl (And.intro rfl trivial))))
set_option maxRecDepth 100000 in
set_option maxHeartbeats 4000000 in
theorem c_X4_goOn (l : Launch) (D : va_G) (t : gT) (ad : Nat → Nat) (hI : gI ad) {l1 : Int32} {G : gG} {G0 : gG} (hsh : sh_X4_goOn l1 G = some G0) : Mv l D t ad yX4_goOn cX4_goOn 3 (rM 4 93) [.ref (ad 71), .int l1] G G0 := by
  refine m_go hI RX4 rfl (by decide +kernel) ⟨rfl, rfl⟩ (Nat.le_of_ble_eq_true rfl) rfl [some (.ref (ad 71)), some (.int l1), none] rfl (fun p e s m args below meth c C => ?_)
  unfold sh_X4_goOn at hsh
  refine v_iconst C dX4_goOn_0 (v := 0) (by decide) ?_
  refine v_istoren C dX4_goOn_1 (by decide) ?_
  refine v_wk (lp_X4_goOn_2 C hI (fun G hsh => ?_) FU _ _ _ hsh) (wk_of (And.intro rfl (And.intro rfl (And.intro rfl trivial))))
  obtain rfl := so_1 hsh
  exact v_vret C dX4_goOn_18
theorem yo_X4_goOn : yOk yX4_goOn 1 := ⟨by decide, by decide, by decide +kernel⟩

def sh_X4_pieceOf_26 (G : gG) (kt66 : Int32 → Int32 → Int32 → Option (Int32)) : Nat → Int32 → Int32 → Int32 → Int32 → Option (Int32)
  | 0, _, _, _, _ => none
  | n + 1, l2, l3, l4, l5 => (if (16 : Int32) ≤ l5 then kt66 l2 l3 l4 else (if (sh_X4_has l4 l5) = (0 : Int32) then sh_X4_pieceOf_26 G kt66 n l2 (l3 ||| (0 : Int32)) l4 (l5 + 1) else (obp (sh_X4_of l5 (8 : Int32) G) fun r4 => sh_X4_pieceOf_26 G kt66 n l2 (l3 ||| (r4 &&& l2)) l4 (l5 + 1))))
def sh_X4_pieceOf_14 (G : gG) (kt69 : Int32 → Option (Int32)) : Nat → Int32 → Int32 → Int32 → Option (Int32)
  | 0, _, _, _ => none
  | n + 1, l2, l3, l4 => (if l3 = l4 then kt69 l3 else (sh_X4_pieceOf_26 G (fun l2 l3 l4 => sh_X4_pieceOf_14 G kt69 n l2 l3 l4) FU l2 l3 l3 (0 : Int32)))
def sh_X4_pieceOf (l1 : Int32) (G : gG) : Option (Int32) := (obp (sh_X4_lampsOn G) fun r2 => (sh_X4_pieceOf_14 G (fun l3 => some l3) FU r2 (((1 : Int32) <<< (l1 &&& 31)) &&& r2) (0 : Int32)))
set_option maxRecDepth 100000 in
set_option maxHeartbeats 4000000 in
theorem lp_X4_pieceOf_26 {p : Program} {l : Launch} {e : Env} {s : State} {m : MethodId} {args : Array Value} {below : List Frame} {meth : Method} {c : Code} {D : va_G} {t : gT} {ad : Nat → Nat} (C : gC p s m args meth c cX4_pieceOf RX4 6 (some .int) (isW ad) D t ad) (hI : gI ad) {G : gG} {r0 : Int32} {kt66 : Int32 → Int32 → Int32 → Option (Int32)} (hk66 : ∀ (l2 : Int32) (l3 : Int32) (l4 : Int32) , kt66 l2 l3 l4 = some r0 → V p l e (rM 3 65) s m args below meth c (isW ad) D t ad 0 0 6 (Qi below D t ad args s r0 G) G 66 [some (.ref (ad 71)), none, some (.int l2), some (.int l3), some (.int l4), none] []) : ∀ (n : Nat) (l2 : Int32) (l3 : Int32) (l4 : Int32) (l5 : Int32) , sh_X4_pieceOf_26 G kt66 n l2 l3 l4 l5 = some r0 → V p l e (rM 3 65) s m args below meth c (isW ad) D t ad 0 0 6 (Qi below D t ad args s r0 G) G 26 [some (.ref (ad 71)), none, some (.int l2), some (.int l3), some (.int l4), some (.int l5)] [] := by
  intro n
  induction n with
  | zero => intro l2 l3 l4 l5 hsh; rw [sh_X4_pieceOf_26.eq_1] at hsh; cases hsh
  | succ n ih =>
    intro l2 l3 l4 l5 hsh
    rw [sh_X4_pieceOf_26.eq_2] at hsh
    refine v_iload C dX4_pieceOf_26 rfl ?_
    refine v_bipush C dX4_pieceOf_28 (v := 16) (by decide) ?_
    refine v_ic_ge C 66 dX4_pieceOf_30 (by decide) (fun hc => ?_) (fun hc => ?_)
    · replace hsh := ite_p hc hsh
      exact v_wk (hk66 _ _ _ hsh) (wk_of (And.intro rfl (And.intro rfl (And.intro rfl (And.intro rfl trivial)))))
    · replace hsh := ite_n hc hsh
      refine v_iloadn C dX4_pieceOf_33 rfl ?_
      refine v_iload C dX4_pieceOf_34 rfl ?_
      refine v_iload C dX4_pieceOf_36 rfl ?_
      refine v_callS (nP := 2) C (c_X4_has l D t ad hI  (G := G) rfl) k633 k631 k632 k5 yo_X4_has ⟨Nat.le_of_ble_eq_true rfl, Nat.le_of_ble_eq_true rfl, rfl, rfl, Nat.zero_le _, Nat.zero_le _⟩ rfl rfl (Nat.le_of_ble_eq_true rfl) dX4_pieceOf_38 ?_
      refine v_if_eq C 57 dX4_pieceOf_41 (by decide) (fun hc => ?_) (fun hc => ?_)
      · replace hsh := ite_p hc hsh
        refine v_iconst C dX4_pieceOf_57 (v := 0) (by decide) ?_
        refine v_ior C dX4_pieceOf_58 ?_
        refine v_istoren C dX4_pieceOf_59 (by decide) ?_
        refine v_iinc C dX4_pieceOf_60 rfl (v := 1) (by decide) (by decide) ?_
        refine v_goto C 26 dX4_pieceOf_63 (by decide) ?_
        exact v_wk (ih _ _ _ _ hsh) (wk_of (And.intro rfl (And.intro rfl (And.intro rfl (And.intro rfl (And.intro rfl trivial))))))
      · replace hsh := ite_n hc hsh
        refine v_aloadn C dX4_pieceOf_44 rfl ?_
        refine v_iload C dX4_pieceOf_45 rfl ?_
        refine v_bipush C dX4_pieceOf_47 (v := 8) (by decide) ?_
        obtain ⟨r4, e3, hsh⟩ := obp_e hsh
        refine v_callI (nP := 2) (k := 71) C (by decide) rfl rfl (c_X4_of l D t ad hI  e3) k580 k577 k579 kp20 k5 yo_X4_of ⟨Nat.le_of_ble_eq_true rfl, Nat.le_of_ble_eq_true rfl, rfl, rfl, Nat.zero_le _, Nat.zero_le _⟩ rfl rfl (Nat.le_of_ble_eq_true rfl) dX4_pieceOf_49 ?_
        refine v_iloadn C dX4_pieceOf_52 rfl ?_
        refine v_iand C dX4_pieceOf_53 ?_
        refine v_goto C 58 dX4_pieceOf_54 (by decide) ?_
        refine v_ior C dX4_pieceOf_58 ?_
        refine v_istoren C dX4_pieceOf_59 (by decide) ?_
        refine v_iinc C dX4_pieceOf_60 rfl (v := 1) (by decide) (by decide) ?_
        refine v_goto C 26 dX4_pieceOf_63 (by decide) ?_
        exact v_wk (ih _ _ _ _ hsh) (wk_of (And.intro rfl (And.intro rfl (And.intro rfl (And.intro rfl (And.intro rfl trivial))))))
set_option maxRecDepth 100000 in
set_option maxHeartbeats 4000000 in
theorem lp_X4_pieceOf_14 {p : Program} {l : Launch} {e : Env} {s : State} {m : MethodId} {args : Array Value} {below : List Frame} {meth : Method} {c : Code} {D : va_G} {t : gT} {ad : Nat → Nat} (C : gC p s m args meth c cX4_pieceOf RX4 6 (some .int) (isW ad) D t ad) (hI : gI ad) {G : gG} {r0 : Int32} {kt69 : Int32 → Option (Int32)} (hk69 : ∀ (l3 : Int32) , kt69 l3 = some r0 → V p l e (rM 3 65) s m args below meth c (isW ad) D t ad 0 0 6 (Qi below D t ad args s r0 G) G 69 [none, none, none, some (.int l3), none, none] []) : ∀ (n : Nat) (l2 : Int32) (l3 : Int32) (l4 : Int32) , sh_X4_pieceOf_14 G kt69 n l2 l3 l4 = some r0 → V p l e (rM 3 65) s m args below meth c (isW ad) D t ad 0 0 6 (Qi below D t ad args s r0 G) G 14 [some (.ref (ad 71)), none, some (.int l2), some (.int l3), some (.int l4), none] [] := by
  intro n
  induction n with
  | zero => intro l2 l3 l4 hsh; rw [sh_X4_pieceOf_14.eq_1] at hsh; cases hsh
  | succ n ih =>
    intro l2 l3 l4 hsh
    rw [sh_X4_pieceOf_14.eq_2] at hsh
    refine v_iloadn C dX4_pieceOf_14 rfl ?_
    refine v_iload C dX4_pieceOf_15 rfl ?_
    refine v_ic_eq C 69 dX4_pieceOf_17 (by decide) (fun hc => ?_) (fun hc => ?_)
    · replace hsh := ite_p hc hsh
      exact v_wk (hk69 _ hsh) (wk_of (And.intro rfl trivial))
    · replace hsh := ite_n hc hsh
      refine v_iloadn C dX4_pieceOf_20 rfl ?_
      refine v_istore C dX4_pieceOf_21 (by decide) ?_
      refine v_iconst C dX4_pieceOf_23 (v := 0) (by decide) ?_
      refine v_istore C dX4_pieceOf_24 (by decide) ?_
      refine v_wk (lp_X4_pieceOf_26 C hI (fun l2 l3 l4 hsh => ?_) FU _ _ _ _ hsh) (wk_of (And.intro rfl (And.intro rfl (And.intro rfl (And.intro rfl (And.intro rfl trivial))))))
      refine v_goto C 14 dX4_pieceOf_66 (by decide) ?_
      exact v_wk (ih _ _ _ hsh) (wk_of (And.intro rfl (And.intro rfl (And.intro rfl (And.intro rfl trivial)))))
set_option maxRecDepth 100000 in
set_option maxHeartbeats 4000000 in
theorem c_X4_pieceOf (l : Launch) (D : va_G) (t : gT) (ad : Nat → Nat) (hI : gI ad) {l1 : Int32} {G : gG} {r0 : Int32} (hsh : sh_X4_pieceOf l1 G = some r0) : Mi l D t ad yX4_pieceOf cX4_pieceOf 6 (some .int) (rM 3 65) [.ref (ad 71), .int l1] G r0 G := by
  refine m_go hI RX4 rfl (by decide +kernel) ⟨rfl, rfl⟩ (Nat.le_of_ble_eq_true rfl) rfl [some (.ref (ad 71)), some (.int l1), none, none, none, none] rfl (fun p e s m args below meth c C => ?_)
  unfold sh_X4_pieceOf at hsh
  refine v_aloadn C dX4_pieceOf_0 rfl ?_
  obtain ⟨r2, e1, hsh⟩ := obp_e hsh
  refine v_callI (nP := 0) (k := 71) C (by decide) rfl rfl (c_X4_lampsOn l D t ad hI  e1) k622 k619 k621 kp27 k5 yo_X4_lampsOn ⟨Nat.le_of_ble_eq_true rfl, Nat.le_of_ble_eq_true rfl, rfl, rfl, Nat.zero_le _, Nat.zero_le _⟩ rfl rfl (Nat.le_of_ble_eq_true rfl) dX4_pieceOf_1 ?_
  refine v_istoren C dX4_pieceOf_4 (by decide) ?_
  refine v_iconst C dX4_pieceOf_5 (v := 1) (by decide) ?_
  refine v_iloadn C dX4_pieceOf_6 rfl ?_
  refine v_ishl C dX4_pieceOf_7 ?_
  refine v_iloadn C dX4_pieceOf_8 rfl ?_
  refine v_iand C dX4_pieceOf_9 ?_
  refine v_istoren C dX4_pieceOf_10 (by decide) ?_
  refine v_iconst C dX4_pieceOf_11 (v := 0) (by decide) ?_
  refine v_istore C dX4_pieceOf_12 (by decide) ?_
  refine v_wk (lp_X4_pieceOf_14 C hI (fun l3 hsh => ?_) FU _ _ _ hsh) (wk_of (And.intro rfl (And.intro rfl (And.intro rfl (And.intro rfl trivial)))))
  refine v_iloadn C dX4_pieceOf_69 rfl ?_
  obtain rfl := so_1 hsh
  exact v_iret C dX4_pieceOf_70
theorem yo_X4_pieceOf : yOk yX4_pieceOf 1 := ⟨by decide, by decide, by decide +kernel⟩

def sh_X4_pieces_6 (G : gG) (kt45 : Int32 → Option (Int32)) : Nat → Int32 → Int32 → Int32 → Option (Int32)
  | 0, _, _, _ => none
  | n + 1, l1, l2, l3 => (if (16 : Int32) ≤ l3 then kt45 l1 else (obp (sh_X4_isOn l3 G) fun r2 => (if r2 = (0 : Int32) then sh_X4_pieces_6 G kt45 n l1 l2 (l3 + 1) else (if (sh_X4_has l2 l3) = (0 : Int32) then (obp (sh_X4_pieceOf l3 G) fun r4 => sh_X4_pieces_6 G kt45 n (l1 + 1) (l2 ||| r4) (l3 + 1)) else sh_X4_pieces_6 G kt45 n l1 l2 (l3 + 1)))))
def sh_X4_pieces (G : gG) : Option (Int32) := (sh_X4_pieces_6 G (fun l1 => some l1) FU (0 : Int32) (0 : Int32) (0 : Int32))
set_option maxRecDepth 100000 in
set_option maxHeartbeats 4000000 in
theorem lp_X4_pieces_6 {p : Program} {l : Launch} {e : Env} {s : State} {m : MethodId} {args : Array Value} {below : List Frame} {meth : Method} {c : Code} {D : va_G} {t : gT} {ad : Nat → Nat} (C : gC p s m args meth c cX4_pieces RX4 4 (some .int) (isW ad) D t ad) (hI : gI ad) {G : gG} {r0 : Int32} {kt45 : Int32 → Option (Int32)} (hk45 : ∀ (l1 : Int32) , kt45 l1 = some r0 → V p l e (rM 4 90) s m args below meth c (isW ad) D t ad 0 0 4 (Qi below D t ad args s r0 G) G 45 [none, some (.int l1), none, none] []) : ∀ (n : Nat) (l1 : Int32) (l2 : Int32) (l3 : Int32) , sh_X4_pieces_6 G kt45 n l1 l2 l3 = some r0 → V p l e (rM 4 90) s m args below meth c (isW ad) D t ad 0 0 4 (Qi below D t ad args s r0 G) G 6 [some (.ref (ad 71)), some (.int l1), some (.int l2), some (.int l3)] [] := by
  intro n
  induction n with
  | zero => intro l1 l2 l3 hsh; rw [sh_X4_pieces_6.eq_1] at hsh; cases hsh
  | succ n ih =>
    intro l1 l2 l3 hsh
    rw [sh_X4_pieces_6.eq_2] at hsh
    refine v_iloadn C dX4_pieces_6 rfl ?_
    refine v_bipush C dX4_pieces_7 (v := 16) (by decide) ?_
    refine v_ic_ge C 45 dX4_pieces_9 (by decide) (fun hc => ?_) (fun hc => ?_)
    · replace hsh := ite_p hc hsh
      exact v_wk (hk45 _ hsh) (wk_of (And.intro rfl trivial))
    · replace hsh := ite_n hc hsh
      refine v_aloadn C dX4_pieces_12 rfl ?_
      refine v_iloadn C dX4_pieces_13 rfl ?_
      obtain ⟨r2, e1, hsh⟩ := obp_e hsh
      refine v_callI (nP := 1) (k := 71) C (by decide) rfl rfl (c_X4_isOn l D t ad hI  e1) k618 k615 k617 kp26 k5 yo_X4_isOn ⟨Nat.le_of_ble_eq_true rfl, Nat.le_of_ble_eq_true rfl, rfl, rfl, Nat.zero_le _, Nat.zero_le _⟩ rfl rfl (Nat.le_of_ble_eq_true rfl) dX4_pieces_14 ?_
      refine v_if_eq C 39 dX4_pieces_17 (by decide) (fun hc => ?_) (fun hc => ?_)
      · replace hsh := ite_p hc hsh
        refine v_iinc C dX4_pieces_39 rfl (v := 1) (by decide) (by decide) ?_
        refine v_goto C 6 dX4_pieces_42 (by decide) ?_
        exact v_wk (ih _ _ _ hsh) (wk_of (And.intro rfl (And.intro rfl (And.intro rfl (And.intro rfl trivial)))))
      · replace hsh := ite_n hc hsh
        refine v_iloadn C dX4_pieces_20 rfl ?_
        refine v_iloadn C dX4_pieces_21 rfl ?_
        refine v_callS (nP := 2) C (c_X4_has l D t ad hI  (G := G) rfl) k633 k631 k632 k5 yo_X4_has ⟨Nat.le_of_ble_eq_true rfl, Nat.le_of_ble_eq_true rfl, rfl, rfl, Nat.zero_le _, Nat.zero_le _⟩ rfl rfl (Nat.le_of_ble_eq_true rfl) dX4_pieces_22 ?_
        refine v_if_ne C 39 dX4_pieces_25 (by decide) (fun hc => ?_) (fun hc => ?_)
        · replace hsh := ite_n hc hsh
          refine v_iinc C dX4_pieces_39 rfl (v := 1) (by decide) (by decide) ?_
          refine v_goto C 6 dX4_pieces_42 (by decide) ?_
          exact v_wk (ih _ _ _ hsh) (wk_of (And.intro rfl (And.intro rfl (And.intro rfl (And.intro rfl trivial)))))
        · replace hsh := ite_p hc hsh
          refine v_iloadn C dX4_pieces_28 rfl ?_
          refine v_aloadn C dX4_pieces_29 rfl ?_
          refine v_iloadn C dX4_pieces_30 rfl ?_
          obtain ⟨r4, e3, hsh⟩ := obp_e hsh
          refine v_callI (nP := 1) (k := 71) C (by decide) rfl rfl (c_X4_pieceOf l D t ad hI  e3) k733 k730 k732 kp42 k5 yo_X4_pieceOf ⟨Nat.le_of_ble_eq_true rfl, Nat.le_of_ble_eq_true rfl, rfl, rfl, Nat.zero_le _, Nat.zero_le _⟩ rfl rfl (Nat.le_of_ble_eq_true rfl) dX4_pieces_31 ?_
          refine v_ior C dX4_pieces_34 ?_
          refine v_istoren C dX4_pieces_35 (by decide) ?_
          refine v_iinc C dX4_pieces_36 rfl (v := 1) (by decide) (by decide) ?_
          refine v_iinc C dX4_pieces_39 rfl (v := 1) (by decide) (by decide) ?_
          refine v_goto C 6 dX4_pieces_42 (by decide) ?_
          exact v_wk (ih _ _ _ hsh) (wk_of (And.intro rfl (And.intro rfl (And.intro rfl (And.intro rfl trivial)))))
set_option maxRecDepth 100000 in
set_option maxHeartbeats 4000000 in
theorem c_X4_pieces (l : Launch) (D : va_G) (t : gT) (ad : Nat → Nat) (hI : gI ad) {G : gG} {r0 : Int32} (hsh : sh_X4_pieces G = some r0) : Mi l D t ad yX4_pieces cX4_pieces 4 (some .int) (rM 4 90) [.ref (ad 71)] G r0 G := by
  refine m_go hI RX4 rfl (by decide +kernel) ⟨rfl, rfl⟩ (Nat.le_of_ble_eq_true rfl) rfl [some (.ref (ad 71)), none, none, none] rfl (fun p e s m args below meth c C => ?_)
  unfold sh_X4_pieces at hsh
  refine v_iconst C dX4_pieces_0 (v := 0) (by decide) ?_
  refine v_istoren C dX4_pieces_1 (by decide) ?_
  refine v_iconst C dX4_pieces_2 (v := 0) (by decide) ?_
  refine v_istoren C dX4_pieces_3 (by decide) ?_
  refine v_iconst C dX4_pieces_4 (v := 0) (by decide) ?_
  refine v_istoren C dX4_pieces_5 (by decide) ?_
  refine v_wk (lp_X4_pieces_6 C hI (fun l1 hsh => ?_) FU _ _ _ hsh) (wk_of (And.intro rfl (And.intro rfl (And.intro rfl (And.intro rfl trivial)))))
  refine v_iloadn C dX4_pieces_45 rfl ?_
  obtain rfl := so_1 hsh
  exact v_iret C dX4_pieces_46
theorem yo_X4_pieces : yOk yX4_pieces 0 := ⟨by decide, by decide, by decide +kernel⟩

def sh_X4_agreeing_4 (G : gG) (kt57 : Int32 → Option (Int32)) : Nat → Int32 → Int32 → Int32 → Option (Int32)
  | 0, _, _, _ => none
  | n + 1, l1, l2, l3 => (if (16 : Int32) ≤ l3 then kt57 l2 else (obp (sh_X4_isOn l1 G) fun r2 => (if r2 = (0 : Int32) then sh_X4_agreeing_4 G kt57 n l1 (l2 ||| (0 : Int32)) (l3 + 1) else (obp (sh_X4_isOn l3 G) fun r4 => (if r4 = (0 : Int32) then sh_X4_agreeing_4 G kt57 n l1 (l2 ||| (0 : Int32)) (l3 + 1) else (obp (sh_X4_of l3 (1 : Int32) G) fun r6 => (obp (sh_X4_of l1 (1 : Int32) G) fun r8 => (if r6 = r8 then sh_X4_agreeing_4 G kt57 n l1 (l2 ||| ((1 : Int32) <<< (l3 &&& 31))) (l3 + 1) else sh_X4_agreeing_4 G kt57 n l1 (l2 ||| (0 : Int32)) (l3 + 1)))))))))
def sh_X4_agreeing (l1 : Int32) (G : gG) : Option (Int32) := (sh_X4_agreeing_4 G (fun l2 => some l2) FU l1 (0 : Int32) (0 : Int32))
set_option maxRecDepth 100000 in
set_option maxHeartbeats 4000000 in
theorem lp_X4_agreeing_4 {p : Program} {l : Launch} {e : Env} {s : State} {m : MethodId} {args : Array Value} {below : List Frame} {meth : Method} {c : Code} {D : va_G} {t : gT} {ad : Nat → Nat} (C : gC p s m args meth c cX4_agreeing RX4 4 (some .int) (isW ad) D t ad) (hI : gI ad) {G : gG} {r0 : Int32} {kt57 : Int32 → Option (Int32)} (hk57 : ∀ (l2 : Int32) , kt57 l2 = some r0 → V p l e (rM 2 43) s m args below meth c (isW ad) D t ad 0 0 4 (Qi below D t ad args s r0 G) G 57 [none, none, some (.int l2), none] []) : ∀ (n : Nat) (l1 : Int32) (l2 : Int32) (l3 : Int32) , sh_X4_agreeing_4 G kt57 n l1 l2 l3 = some r0 → V p l e (rM 2 43) s m args below meth c (isW ad) D t ad 0 0 4 (Qi below D t ad args s r0 G) G 4 [some (.ref (ad 71)), some (.int l1), some (.int l2), some (.int l3)] [] := by
  intro n
  induction n with
  | zero => intro l1 l2 l3 hsh; rw [sh_X4_agreeing_4.eq_1] at hsh; cases hsh
  | succ n ih =>
    intro l1 l2 l3 hsh
    rw [sh_X4_agreeing_4.eq_2] at hsh
    refine v_iloadn C dX4_agreeing_4 rfl ?_
    refine v_bipush C dX4_agreeing_5 (v := 16) (by decide) ?_
    refine v_ic_ge C 57 dX4_agreeing_7 (by decide) (fun hc => ?_) (fun hc => ?_)
    · replace hsh := ite_p hc hsh
      exact v_wk (hk57 _ hsh) (wk_of (And.intro rfl trivial))
    · replace hsh := ite_n hc hsh
      refine v_iloadn C dX4_agreeing_10 rfl ?_
      refine v_aloadn C dX4_agreeing_11 rfl ?_
      refine v_iloadn C dX4_agreeing_12 rfl ?_
      obtain ⟨r2, e1, hsh⟩ := obp_e hsh
      refine v_callI (nP := 1) (k := 71) C (by decide) rfl rfl (c_X4_isOn l D t ad hI  e1) k618 k615 k617 kp26 k5 yo_X4_isOn ⟨Nat.le_of_ble_eq_true rfl, Nat.le_of_ble_eq_true rfl, rfl, rfl, Nat.zero_le _, Nat.zero_le _⟩ rfl rfl (Nat.le_of_ble_eq_true rfl) dX4_agreeing_13 ?_
      refine v_if_eq C 48 dX4_agreeing_16 (by decide) (fun hc => ?_) (fun hc => ?_)
      · replace hsh := ite_p hc hsh
        refine v_iconst C dX4_agreeing_48 (v := 0) (by decide) ?_
        refine v_ior C dX4_agreeing_49 ?_
        refine v_istoren C dX4_agreeing_50 (by decide) ?_
        refine v_iinc C dX4_agreeing_51 rfl (v := 1) (by decide) (by decide) ?_
        refine v_goto C 4 dX4_agreeing_54 (by decide) ?_
        exact v_wk (ih _ _ _ hsh) (wk_of (And.intro rfl (And.intro rfl (And.intro rfl (And.intro rfl trivial)))))
      · replace hsh := ite_n hc hsh
        refine v_aloadn C dX4_agreeing_19 rfl ?_
        refine v_iloadn C dX4_agreeing_20 rfl ?_
        obtain ⟨r4, e3, hsh⟩ := obp_e hsh
        refine v_callI (nP := 1) (k := 71) C (by decide) rfl rfl (c_X4_isOn l D t ad hI  e3) k618 k615 k617 kp26 k5 yo_X4_isOn ⟨Nat.le_of_ble_eq_true rfl, Nat.le_of_ble_eq_true rfl, rfl, rfl, Nat.zero_le _, Nat.zero_le _⟩ rfl rfl (Nat.le_of_ble_eq_true rfl) dX4_agreeing_21 ?_
        refine v_if_eq C 48 dX4_agreeing_24 (by decide) (fun hc => ?_) (fun hc => ?_)
        · replace hsh := ite_p hc hsh
          refine v_iconst C dX4_agreeing_48 (v := 0) (by decide) ?_
          refine v_ior C dX4_agreeing_49 ?_
          refine v_istoren C dX4_agreeing_50 (by decide) ?_
          refine v_iinc C dX4_agreeing_51 rfl (v := 1) (by decide) (by decide) ?_
          refine v_goto C 4 dX4_agreeing_54 (by decide) ?_
          exact v_wk (ih _ _ _ hsh) (wk_of (And.intro rfl (And.intro rfl (And.intro rfl (And.intro rfl trivial)))))
        · replace hsh := ite_n hc hsh
          refine v_aloadn C dX4_agreeing_27 rfl ?_
          refine v_iloadn C dX4_agreeing_28 rfl ?_
          refine v_iconst C dX4_agreeing_29 (v := 1) (by decide) ?_
          obtain ⟨r6, e5, hsh⟩ := obp_e hsh
          refine v_callI (nP := 2) (k := 71) C (by decide) rfl rfl (c_X4_of l D t ad hI  e5) k580 k577 k579 kp20 k5 yo_X4_of ⟨Nat.le_of_ble_eq_true rfl, Nat.le_of_ble_eq_true rfl, rfl, rfl, Nat.zero_le _, Nat.zero_le _⟩ rfl rfl (Nat.le_of_ble_eq_true rfl) dX4_agreeing_30 ?_
          refine v_aloadn C dX4_agreeing_33 rfl ?_
          refine v_iloadn C dX4_agreeing_34 rfl ?_
          refine v_iconst C dX4_agreeing_35 (v := 1) (by decide) ?_
          obtain ⟨r8, e7, hsh⟩ := obp_e hsh
          refine v_callI (nP := 2) (k := 71) C (by decide) rfl rfl (c_X4_of l D t ad hI  e7) k580 k577 k579 kp20 k5 yo_X4_of ⟨Nat.le_of_ble_eq_true rfl, Nat.le_of_ble_eq_true rfl, rfl, rfl, Nat.zero_le _, Nat.zero_le _⟩ rfl rfl (Nat.le_of_ble_eq_true rfl) dX4_agreeing_36 ?_
          refine v_ic_ne C 48 dX4_agreeing_39 (by decide) (fun hc => ?_) (fun hc => ?_)
          · replace hsh := ite_n hc hsh
            refine v_iconst C dX4_agreeing_48 (v := 0) (by decide) ?_
            refine v_ior C dX4_agreeing_49 ?_
            refine v_istoren C dX4_agreeing_50 (by decide) ?_
            refine v_iinc C dX4_agreeing_51 rfl (v := 1) (by decide) (by decide) ?_
            refine v_goto C 4 dX4_agreeing_54 (by decide) ?_
            exact v_wk (ih _ _ _ hsh) (wk_of (And.intro rfl (And.intro rfl (And.intro rfl (And.intro rfl trivial)))))
          · replace hsh := ite_p hc hsh
            refine v_iconst C dX4_agreeing_42 (v := 1) (by decide) ?_
            refine v_iloadn C dX4_agreeing_43 rfl ?_
            refine v_ishl C dX4_agreeing_44 ?_
            refine v_goto C 49 dX4_agreeing_45 (by decide) ?_
            refine v_ior C dX4_agreeing_49 ?_
            refine v_istoren C dX4_agreeing_50 (by decide) ?_
            refine v_iinc C dX4_agreeing_51 rfl (v := 1) (by decide) (by decide) ?_
            refine v_goto C 4 dX4_agreeing_54 (by decide) ?_
            exact v_wk (ih _ _ _ hsh) (wk_of (And.intro rfl (And.intro rfl (And.intro rfl (And.intro rfl trivial)))))
set_option maxRecDepth 100000 in
set_option maxHeartbeats 4000000 in
theorem c_X4_agreeing (l : Launch) (D : va_G) (t : gT) (ad : Nat → Nat) (hI : gI ad) {l1 : Int32} {G : gG} {r0 : Int32} (hsh : sh_X4_agreeing l1 G = some r0) : Mi l D t ad yX4_agreeing cX4_agreeing 4 (some .int) (rM 2 43) [.ref (ad 71), .int l1] G r0 G := by
  refine m_go hI RX4 rfl (by decide +kernel) ⟨rfl, rfl⟩ (Nat.le_of_ble_eq_true rfl) rfl [some (.ref (ad 71)), some (.int l1), none, none] rfl (fun p e s m args below meth c C => ?_)
  unfold sh_X4_agreeing at hsh
  refine v_iconst C dX4_agreeing_0 (v := 0) (by decide) ?_
  refine v_istoren C dX4_agreeing_1 (by decide) ?_
  refine v_iconst C dX4_agreeing_2 (v := 0) (by decide) ?_
  refine v_istoren C dX4_agreeing_3 (by decide) ?_
  refine v_wk (lp_X4_agreeing_4 C hI (fun l2 hsh => ?_) FU _ _ _ hsh) (wk_of (And.intro rfl (And.intro rfl (And.intro rfl (And.intro rfl trivial)))))
  refine v_iloadn C dX4_agreeing_57 rfl ?_
  obtain rfl := so_1 hsh
  exact v_iret C dX4_agreeing_58
theorem yo_X4_agreeing : yOk yX4_agreeing 1 := ⟨by decide, by decide, by decide +kernel⟩

def sh_X4_distance_j24 (G : gG) (x0 : Int32) : Option (Int32) := (obp (sh_X4_round G) fun r6 => (if (r6 - x0) ≤ x0 then (obp (sh_X4_round G) fun r8 => some (r8 - x0)) else some x0))
def sh_X4_distance (l1 : Int32) (l2 : Int32) (G : gG) : Option (Int32) := (obp (sh_X4_of l1 (1 : Int32) G) fun r2 => (obp (sh_X4_of l2 (1 : Int32) G) fun r4 => (if (0 : Int32) ≤ (r2 - r4) then (sh_X4_distance_j24 G (r2 - r4)) else (sh_X4_distance_j24 G (-(r2 - r4))))))
set_option maxRecDepth 100000 in
set_option maxHeartbeats 4000000 in
theorem c_X4_distance (l : Launch) (D : va_G) (t : gT) (ad : Nat → Nat) (hI : gI ad) {l1 : Int32} {l2 : Int32} {G : gG} {r0 : Int32} (hsh : sh_X4_distance l1 l2 G = some r0) : Mi l D t ad yX4_distance cX4_distance 4 (some .int) (rM 1 22) [.ref (ad 71), .int l1, .int l2] G r0 G := by
  refine m_go hI RX4 rfl (by decide +kernel) ⟨rfl, rfl⟩ (Nat.le_of_ble_eq_true rfl) rfl [some (.ref (ad 71)), some (.int l1), some (.int l2), none] rfl (fun p e s m args below meth c C => ?_)
  unfold sh_X4_distance at hsh
  have hj24 : ∀ (x0 : Int32) , sh_X4_distance_j24 G x0 = some r0 → V p l e (rM 1 22) s m args below meth c (isW ad) D t ad 0 0 4 (Qi below D t ad args s r0 G) G 24 [some (.ref (ad 71)), none, none, none] [.int x0] := by
    intro x0 hsh
    unfold sh_X4_distance_j24 at hsh
    refine v_istoren C dX4_distance_24 (by decide) ?_
    refine v_iloadn C dX4_distance_25 rfl ?_
    refine v_aloadn C dX4_distance_26 rfl ?_
    obtain ⟨r6, e5, hsh⟩ := obp_e hsh
    refine v_callI (nP := 0) (k := 71) C (by decide) rfl rfl (c_X4_round l D t ad hI  e5) k599 k596 k598 kp24 k5 yo_X4_round ⟨Nat.le_of_ble_eq_true rfl, Nat.le_of_ble_eq_true rfl, rfl, rfl, Nat.zero_le _, Nat.zero_le _⟩ rfl rfl (Nat.le_of_ble_eq_true rfl) dX4_distance_27 ?_
    refine v_iloadn C dX4_distance_30 rfl ?_
    refine v_isub C dX4_distance_31 ?_
    refine v_ic_ge C 39 dX4_distance_32 (by decide) (fun hc => ?_) (fun hc => ?_)
    · replace hsh := ite_p hc hsh
      refine v_aloadn C dX4_distance_39 rfl ?_
      obtain ⟨r8, e7, hsh⟩ := obp_e hsh
      refine v_callI (nP := 0) (k := 71) C (by decide) rfl rfl (c_X4_round l D t ad hI  e7) k599 k596 k598 kp24 k5 yo_X4_round ⟨Nat.le_of_ble_eq_true rfl, Nat.le_of_ble_eq_true rfl, rfl, rfl, Nat.zero_le _, Nat.zero_le _⟩ rfl rfl (Nat.le_of_ble_eq_true rfl) dX4_distance_40 ?_
      refine v_iloadn C dX4_distance_43 rfl ?_
      refine v_isub C dX4_distance_44 ?_
      obtain rfl := so_1 hsh
      exact v_iret C dX4_distance_45
    · replace hsh := ite_n hc hsh
      refine v_iloadn C dX4_distance_35 rfl ?_
      refine v_goto C 45 dX4_distance_36 (by decide) ?_
      obtain rfl := so_1 hsh
      exact v_iret C dX4_distance_45
  refine v_aloadn C dX4_distance_0 rfl ?_
  refine v_iloadn C dX4_distance_1 rfl ?_
  refine v_iconst C dX4_distance_2 (v := 1) (by decide) ?_
  obtain ⟨r2, e1, hsh⟩ := obp_e hsh
  refine v_callI (nP := 2) (k := 71) C (by decide) rfl rfl (c_X4_of l D t ad hI  e1) k580 k577 k579 kp20 k5 yo_X4_of ⟨Nat.le_of_ble_eq_true rfl, Nat.le_of_ble_eq_true rfl, rfl, rfl, Nat.zero_le _, Nat.zero_le _⟩ rfl rfl (Nat.le_of_ble_eq_true rfl) dX4_distance_3 ?_
  refine v_aloadn C dX4_distance_6 rfl ?_
  refine v_iloadn C dX4_distance_7 rfl ?_
  refine v_iconst C dX4_distance_8 (v := 1) (by decide) ?_
  obtain ⟨r4, e3, hsh⟩ := obp_e hsh
  refine v_callI (nP := 2) (k := 71) C (by decide) rfl rfl (c_X4_of l D t ad hI  e3) k580 k577 k579 kp20 k5 yo_X4_of ⟨Nat.le_of_ble_eq_true rfl, Nat.le_of_ble_eq_true rfl, rfl, rfl, Nat.zero_le _, Nat.zero_le _⟩ rfl rfl (Nat.le_of_ble_eq_true rfl) dX4_distance_9 ?_
  refine v_isub C dX4_distance_12 ?_
  refine v_istoren C dX4_distance_13 (by decide) ?_
  refine v_iloadn C dX4_distance_14 rfl ?_
  refine v_if_ge C 23 dX4_distance_15 (by decide) (fun hc => ?_) (fun hc => ?_)
  · replace hsh := ite_p hc hsh
    refine v_iloadn C dX4_distance_23 rfl ?_
    exact v_wk (hj24 _ hsh) (wk_of (And.intro rfl trivial))
  · replace hsh := ite_n hc hsh
    refine v_iloadn C dX4_distance_18 rfl ?_
    refine v_ineg C dX4_distance_19 ?_
    refine v_goto C 24 dX4_distance_20 (by decide) ?_
    exact v_wk (hj24 _ hsh) (wk_of (And.intro rfl trivial))
theorem yo_X4_distance : yOk yX4_distance 2 := ⟨by decide, by decide, by decide +kernel⟩

def sh_X4_greatestDistance_16 (G : gG) (kt75 : Int32 → Option (Int32)) : Nat → Int32 → Int32 → Option (Int32)
  | 0, _, _ => none
  | n + 1, l1, l2 => (if (256 : Int32) ≤ l2 then kt75 l1 else (obp (sh_X4_isOn (l2 / (16 : Int32)) G) fun r4 => (if r4 = (0 : Int32) then sh_X4_greatestDistance_16 G kt75 n l1 (l2 + 1) else (obp (sh_X4_isOn (l2 - l2 / (16 : Int32) * (16 : Int32)) G) fun r6 => (if r6 = (0 : Int32) then sh_X4_greatestDistance_16 G kt75 n l1 (l2 + 1) else (obp (sh_X4_distance (l2 / (16 : Int32)) (l2 - l2 / (16 : Int32) * (16 : Int32)) G) fun r8 => (if r8 ≤ l1 then sh_X4_greatestDistance_16 G kt75 n l1 (l2 + 1) else sh_X4_greatestDistance_16 G kt75 n r8 (l2 + 1))))))))
def sh_X4_greatestDistance (G : gG) : Option (Int32) := (obp (sh_X4_lampsOn G) fun r2 => (if r2 = (0 : Int32) then (sh_X4_greatestDistance_16 G (fun l1 => some l1) FU (-5 : Int32) (0 : Int32)) else (sh_X4_greatestDistance_16 G (fun l1 => some l1) FU (0 : Int32) (0 : Int32))))
set_option maxRecDepth 100000 in
set_option maxHeartbeats 4000000 in
theorem lp_X4_greatestDistance_16 {p : Program} {l : Launch} {e : Env} {s : State} {m : MethodId} {args : Array Value} {below : List Frame} {meth : Method} {c : Code} {D : va_G} {t : gT} {ad : Nat → Nat} (C : gC p s m args meth c cX4_greatestDistance RX4 4 (some .int) (isW ad) D t ad) (hI : gI ad) {G : gG} {r0 : Int32} {kt75 : Int32 → Option (Int32)} (hk75 : ∀ (l1 : Int32) , kt75 l1 = some r0 → V p l e (rM 3 65) s m args below meth c (isW ad) D t ad 0 0 4 (Qi below D t ad args s r0 G) G 75 [none, some (.int l1), none, none] []) : ∀ (n : Nat) (l1 : Int32) (l2 : Int32) , sh_X4_greatestDistance_16 G kt75 n l1 l2 = some r0 → V p l e (rM 3 65) s m args below meth c (isW ad) D t ad 0 0 4 (Qi below D t ad args s r0 G) G 16 [some (.ref (ad 71)), some (.int l1), some (.int l2), none] [] := by
  intro n
  induction n with
  | zero => intro l1 l2 hsh; rw [sh_X4_greatestDistance_16.eq_1] at hsh; cases hsh
  | succ n ih =>
    intro l1 l2 hsh
    rw [sh_X4_greatestDistance_16.eq_2] at hsh
    refine v_iloadn C dX4_greatestDistance_16 rfl ?_
    refine v_sipush C dX4_greatestDistance_17 (v := 256) (by decide) ?_
    refine v_ic_ge C 75 dX4_greatestDistance_20 (by decide) (fun hc => ?_) (fun hc => ?_)
    · replace hsh := ite_p hc hsh
      exact v_wk (hk75 _ hsh) (wk_of (And.intro rfl trivial))
    · replace hsh := ite_n hc hsh
      refine v_aloadn C dX4_greatestDistance_23 rfl ?_
      refine v_iloadn C dX4_greatestDistance_24 rfl ?_
      refine v_bipush C dX4_greatestDistance_25 (v := 16) (by decide) ?_
      refine v_idiv C dX4_greatestDistance_27 (by decide) ?_
      obtain ⟨r4, e3, hsh⟩ := obp_e hsh
      refine v_callI (nP := 1) (k := 71) C (by decide) rfl rfl (c_X4_isOn l D t ad hI  e3) k618 k615 k617 kp26 k5 yo_X4_isOn ⟨Nat.le_of_ble_eq_true rfl, Nat.le_of_ble_eq_true rfl, rfl, rfl, Nat.zero_le _, Nat.zero_le _⟩ rfl rfl (Nat.le_of_ble_eq_true rfl) dX4_greatestDistance_28 ?_
      refine v_if_eq C 69 dX4_greatestDistance_31 (by decide) (fun hc => ?_) (fun hc => ?_)
      · replace hsh := ite_p hc hsh
        refine v_iinc C dX4_greatestDistance_69 rfl (v := 1) (by decide) (by decide) ?_
        refine v_goto C 16 dX4_greatestDistance_72 (by decide) ?_
        exact v_wk (ih _ _ hsh) (wk_of (And.intro rfl (And.intro rfl (And.intro rfl trivial))))
      · replace hsh := ite_n hc hsh
        refine v_aloadn C dX4_greatestDistance_34 rfl ?_
        refine v_iloadn C dX4_greatestDistance_35 rfl ?_
        refine v_bipush C dX4_greatestDistance_36 (v := 16) (by decide) ?_
        refine v_irem C dX4_greatestDistance_38 (by decide) ?_
        obtain ⟨r6, e5, hsh⟩ := obp_e hsh
        refine v_callI (nP := 1) (k := 71) C (by decide) rfl rfl (c_X4_isOn l D t ad hI  e5) k618 k615 k617 kp26 k5 yo_X4_isOn ⟨Nat.le_of_ble_eq_true rfl, Nat.le_of_ble_eq_true rfl, rfl, rfl, Nat.zero_le _, Nat.zero_le _⟩ rfl rfl (Nat.le_of_ble_eq_true rfl) dX4_greatestDistance_39 ?_
        refine v_if_eq C 69 dX4_greatestDistance_42 (by decide) (fun hc => ?_) (fun hc => ?_)
        · replace hsh := ite_p hc hsh
          refine v_iinc C dX4_greatestDistance_69 rfl (v := 1) (by decide) (by decide) ?_
          refine v_goto C 16 dX4_greatestDistance_72 (by decide) ?_
          exact v_wk (ih _ _ hsh) (wk_of (And.intro rfl (And.intro rfl (And.intro rfl trivial))))
        · replace hsh := ite_n hc hsh
          refine v_aloadn C dX4_greatestDistance_45 rfl ?_
          refine v_iloadn C dX4_greatestDistance_46 rfl ?_
          refine v_bipush C dX4_greatestDistance_47 (v := 16) (by decide) ?_
          refine v_idiv C dX4_greatestDistance_49 (by decide) ?_
          refine v_iloadn C dX4_greatestDistance_50 rfl ?_
          refine v_bipush C dX4_greatestDistance_51 (v := 16) (by decide) ?_
          refine v_irem C dX4_greatestDistance_53 (by decide) ?_
          obtain ⟨r8, e7, hsh⟩ := obp_e hsh
          refine v_callI (nP := 2) (k := 71) C (by decide) rfl rfl (c_X4_distance l D t ad hI  e7) k745 k742 k744 kp44 k5 yo_X4_distance ⟨Nat.le_of_ble_eq_true rfl, Nat.le_of_ble_eq_true rfl, rfl, rfl, Nat.zero_le _, Nat.zero_le _⟩ rfl rfl (Nat.le_of_ble_eq_true rfl) dX4_greatestDistance_54 ?_
          refine v_istoren C dX4_greatestDistance_57 (by decide) ?_
          refine v_iloadn C dX4_greatestDistance_58 rfl ?_
          refine v_iloadn C dX4_greatestDistance_59 rfl ?_
          refine v_ic_le C 67 dX4_greatestDistance_60 (by decide) (fun hc => ?_) (fun hc => ?_)
          · replace hsh := ite_p hc hsh
            refine v_iloadn C dX4_greatestDistance_67 rfl ?_
            refine v_istoren C dX4_greatestDistance_68 (by decide) ?_
            refine v_iinc C dX4_greatestDistance_69 rfl (v := 1) (by decide) (by decide) ?_
            refine v_goto C 16 dX4_greatestDistance_72 (by decide) ?_
            exact v_wk (ih _ _ hsh) (wk_of (And.intro rfl (And.intro rfl (And.intro rfl trivial))))
          · replace hsh := ite_n hc hsh
            refine v_iloadn C dX4_greatestDistance_63 rfl ?_
            refine v_goto C 68 dX4_greatestDistance_64 (by decide) ?_
            refine v_istoren C dX4_greatestDistance_68 (by decide) ?_
            refine v_iinc C dX4_greatestDistance_69 rfl (v := 1) (by decide) (by decide) ?_
            refine v_goto C 16 dX4_greatestDistance_72 (by decide) ?_
            exact v_wk (ih _ _ hsh) (wk_of (And.intro rfl (And.intro rfl (And.intro rfl trivial))))
set_option maxRecDepth 100000 in
set_option maxHeartbeats 4000000 in
theorem c_X4_greatestDistance (l : Launch) (D : va_G) (t : gT) (ad : Nat → Nat) (hI : gI ad) {G : gG} {r0 : Int32} (hsh : sh_X4_greatestDistance G = some r0) : Mi l D t ad yX4_greatestDistance cX4_greatestDistance 4 (some .int) (rM 3 65) [.ref (ad 71)] G r0 G := by
  refine m_go hI RX4 rfl (by decide +kernel) ⟨rfl, rfl⟩ (Nat.le_of_ble_eq_true rfl) rfl [some (.ref (ad 71)), none, none, none] rfl (fun p e s m args below meth c C => ?_)
  unfold sh_X4_greatestDistance at hsh
  refine v_aloadn C dX4_greatestDistance_0 rfl ?_
  obtain ⟨r2, e1, hsh⟩ := obp_e hsh
  refine v_callI (nP := 0) (k := 71) C (by decide) rfl rfl (c_X4_lampsOn l D t ad hI  e1) k622 k619 k621 kp27 k5 yo_X4_lampsOn ⟨Nat.le_of_ble_eq_true rfl, Nat.le_of_ble_eq_true rfl, rfl, rfl, Nat.zero_le _, Nat.zero_le _⟩ rfl rfl (Nat.le_of_ble_eq_true rfl) dX4_greatestDistance_1 ?_
  refine v_if_ne C 12 dX4_greatestDistance_4 (by decide) (fun hc => ?_) (fun hc => ?_)
  · replace hsh := ite_n hc hsh
    refine v_iconst C dX4_greatestDistance_12 (v := 0) (by decide) ?_
    refine v_istoren C dX4_greatestDistance_13 (by decide) ?_
    refine v_iconst C dX4_greatestDistance_14 (v := 0) (by decide) ?_
    refine v_istoren C dX4_greatestDistance_15 (by decide) ?_
    refine v_wk (lp_X4_greatestDistance_16 C hI (fun l1 hsh => ?_) FU _ _ hsh) (wk_of (And.intro rfl (And.intro rfl (And.intro rfl trivial))))
    refine v_iloadn C dX4_greatestDistance_75 rfl ?_
    obtain rfl := so_1 hsh
    exact v_iret C dX4_greatestDistance_76
  · replace hsh := ite_p hc hsh
    refine v_bipush C dX4_greatestDistance_7 (v := -5) (by decide) ?_
    refine v_goto C 13 dX4_greatestDistance_9 (by decide) ?_
    refine v_istoren C dX4_greatestDistance_13 (by decide) ?_
    refine v_iconst C dX4_greatestDistance_14 (v := 0) (by decide) ?_
    refine v_istoren C dX4_greatestDistance_15 (by decide) ?_
    refine v_wk (lp_X4_greatestDistance_16 C hI (fun l1 hsh => ?_) FU _ _ hsh) (wk_of (And.intro rfl (And.intro rfl (And.intro rfl trivial))))
    refine v_iloadn C dX4_greatestDistance_75 rfl ?_
    obtain rfl := so_1 hsh
    exact v_iret C dX4_greatestDistance_76
theorem yo_X4_greatestDistance : yOk yX4_greatestDistance 0 := ⟨by decide, by decide, by decide +kernel⟩

def sh_X4_isTogether (G : gG) : Option (Int32) := (obp (sh_X4_greatestDistance G) fun r2 => (if r2 = (0 : Int32) then some (1 : Int32) else some (0 : Int32)))
set_option maxRecDepth 100000 in
set_option maxHeartbeats 4000000 in
theorem c_X4_isTogether (l : Launch) (D : va_G) (t : gT) (ad : Nat → Nat) (hI : gI ad) {G : gG} {r0 : Int32} (hsh : sh_X4_isTogether G = some r0) : Mi l D t ad yX4_isTogether cX4_isTogether 1 (some .boolean) (rM 4 88) [.ref (ad 71)] G r0 G := by
  refine m_go hI RX4 rfl (by decide +kernel) ⟨rfl, rfl⟩ (Nat.le_of_ble_eq_true rfl) rfl [some (.ref (ad 71))] rfl (fun p e s m args below meth c C => ?_)
  unfold sh_X4_isTogether at hsh
  refine v_aloadn C dX4_isTogether_0 rfl ?_
  obtain ⟨r2, e1, hsh⟩ := obp_e hsh
  refine v_callI (nP := 0) (k := 71) C (by decide) rfl rfl (c_X4_greatestDistance l D t ad hI  e1) k765 k762 k764 kp47 k5 yo_X4_greatestDistance ⟨Nat.le_of_ble_eq_true rfl, Nat.le_of_ble_eq_true rfl, rfl, rfl, Nat.zero_le _, Nat.zero_le _⟩ rfl rfl (Nat.le_of_ble_eq_true rfl) dX4_isTogether_1 ?_
  refine v_if_ne C 11 dX4_isTogether_4 (by decide) (fun hc => ?_) (fun hc => ?_)
  · replace hsh := ite_n hc hsh
    refine v_iconst C dX4_isTogether_11 (v := 0) (by decide) ?_
    obtain rfl := so_1 hsh
    exact v_zret C (Or.inl rfl) dX4_isTogether_12
  · replace hsh := ite_p hc hsh
    refine v_iconst C dX4_isTogether_7 (v := 1) (by decide) ?_
    refine v_goto C 12 dX4_isTogether_8 (by decide) ?_
    obtain rfl := so_1 hsh
    exact v_zret C (Or.inr rfl) dX4_isTogether_12
theorem yo_X4_isTogether : yOk yX4_isTogether 0 := ⟨by decide, by decide, by decide +kernel⟩

def sh_X4_lay_3  (kt24 : Int32 → Int32 → Int32 → gG → Option (gG)) : Nat → Int32 → Int32 → Int32 → Int32 → gG → Option (gG)
  | 0, _, _, _, _, _ => none
  | n + 1, l1, l2, l3, l4, G => (if (9 : Int32) ≤ l4 then kt24 l1 l2 l3 G else (obv (sh_X4_put l1 l4 (0 : Int32) G) fun G2 => sh_X4_lay_3 kt24 n l1 l2 l3 (l4 + 1) G2))
def sh_X4_lay_j52 (l1 : Int32) (l3 : Int32) (x1 : Int32) (x2 : Int32) (x3 : Int32) (G : gG) : Option (gG) := (obv (sh_X4_put x1 x2 x3 G) fun G10 => (obv (sh_X4_put l1 (2 : Int32) l3 G10) fun G12 => (obv (sh_X4_put l1 (3 : Int32) (1 : Int32) G12) fun G14 => some G14)))
def sh_X4_lay (l1 : Int32) (l2 : Int32) (l3 : Int32) (G : gG) : Option (gG) := (sh_X4_lay_3 (fun l1 l2 l3 G => (obv (sh_X4_put l1 (0 : Int32) (1 : Int32) G) fun G4 => (obp (sh_X4_round G4) fun r6 => (if r6 ≤ l2 then (obp (sh_X4_round G4) fun r8 => (sh_X4_lay_j52 l1 l3 l1 (1 : Int32) (r8 - (1 : Int32)) G4)) else (sh_X4_lay_j52 l1 l3 l1 (1 : Int32) l2 G4))))) FU l1 l2 l3 (0 : Int32) G)
set_option maxRecDepth 100000 in
set_option maxHeartbeats 4000000 in
theorem lp_X4_lay_3 {p : Program} {l : Launch} {e : Env} {s : State} {m : MethodId} {args : Array Value} {below : List Frame} {meth : Method} {c : Code} {D : va_G} {t : gT} {ad : Nat → Nat} (C : gC p s m args meth c cX4_lay RX4 5 none (isW ad) D t ad) (hI : gI ad) {G0 : gG} {kt24 : Int32 → Int32 → Int32 → gG → Option (gG)} (hk24 : ∀ (l1 : Int32) (l2 : Int32) (l3 : Int32) (G : gG) , kt24 l1 l2 l3 G = some G0 → V p l e (rM 1 23) s m args below meth c (isW ad) D t ad 0 0 5 (Qv below D t ad args s G0) G 24 [some (.ref (ad 71)), some (.int l1), some (.int l2), some (.int l3), none] []) : ∀ (n : Nat) (l1 : Int32) (l2 : Int32) (l3 : Int32) (l4 : Int32) (G : gG) , sh_X4_lay_3 kt24 n l1 l2 l3 l4 G = some G0 → V p l e (rM 1 23) s m args below meth c (isW ad) D t ad 0 0 5 (Qv below D t ad args s G0) G 3 [some (.ref (ad 71)), some (.int l1), some (.int l2), some (.int l3), some (.int l4)] [] := by
  intro n
  induction n with
  | zero => intro l1 l2 l3 l4 G hsh; rw [sh_X4_lay_3.eq_1] at hsh; cases hsh
  | succ n ih =>
    intro l1 l2 l3 l4 G hsh
    rw [sh_X4_lay_3.eq_2] at hsh
    refine v_iload C dX4_lay_3 rfl ?_
    refine v_bipush C dX4_lay_5 (v := 9) (by decide) ?_
    refine v_ic_ge C 24 dX4_lay_7 (by decide) (fun hc => ?_) (fun hc => ?_)
    · replace hsh := ite_p hc hsh
      exact v_wk (hk24 _ _ _ _ hsh) (wk_of (And.intro rfl (And.intro rfl (And.intro rfl (And.intro rfl trivial)))))
    · replace hsh := ite_n hc hsh
      refine v_aloadn C dX4_lay_10 rfl ?_
      refine v_iloadn C dX4_lay_11 rfl ?_
      refine v_iload C dX4_lay_12 rfl ?_
      refine v_iconst C dX4_lay_14 (v := 0) (by decide) ?_
      obtain ⟨G2, e1, hsh⟩ := obv_e hsh
      refine v_callV (nP := 3) (k := 71) C (by decide) rfl rfl (c_X4_put l D t ad hI  e1) k595 k592 k594 kp23 k5 yo_X4_put ⟨Nat.le_of_ble_eq_true rfl, Nat.le_of_ble_eq_true rfl, rfl, rfl, Nat.zero_le _, Nat.zero_le _⟩ rfl rfl (Nat.le_of_ble_eq_true rfl) dX4_lay_15 ?_
      refine v_iinc C dX4_lay_18 rfl (v := 1) (by decide) (by decide) ?_
      refine v_goto C 3 dX4_lay_21 (by decide) ?_
      exact v_wk (ih _ _ _ _ _ hsh) (wk_of (And.intro rfl (And.intro rfl (And.intro rfl (And.intro rfl (And.intro rfl trivial))))))
set_option maxRecDepth 100000 in
set_option maxHeartbeats 4000000 in
theorem c_X4_lay (l : Launch) (D : va_G) (t : gT) (ad : Nat → Nat) (hI : gI ad) {l1 : Int32} {l2 : Int32} {l3 : Int32} {G : gG} {G0 : gG} (hsh : sh_X4_lay l1 l2 l3 G = some G0) : Mv l D t ad yX4_lay cX4_lay 5 (rM 1 23) [.ref (ad 71), .int l1, .int l2, .int l3] G G0 := by
  refine m_go hI RX4 rfl (by decide +kernel) ⟨rfl, rfl⟩ (Nat.le_of_ble_eq_true rfl) rfl [some (.ref (ad 71)), some (.int l1), some (.int l2), some (.int l3), none] rfl (fun p e s m args below meth c C => ?_)
  unfold sh_X4_lay at hsh
  have hj52 : ∀ (l1 : Int32) (l3 : Int32) (x1 : Int32) (x2 : Int32) (x3 : Int32) (G : gG) , sh_X4_lay_j52 l1 l3 x1 x2 x3 G = some G0 → V p l e (rM 1 23) s m args below meth c (isW ad) D t ad 0 0 5 (Qv below D t ad args s G0) G 52 [some (.ref (ad 71)), some (.int l1), none, some (.int l3), none] [.int x3, .int x2, .int x1, .ref (ad 71)] := by
    intro l1 l3 x1 x2 x3 G hsh
    unfold sh_X4_lay_j52 at hsh
    obtain ⟨G10, e9, hsh⟩ := obv_e hsh
    refine v_callV (nP := 3) (k := 71) C (by decide) rfl rfl (c_X4_put l D t ad hI  e9) k595 k592 k594 kp23 k5 yo_X4_put ⟨Nat.le_of_ble_eq_true rfl, Nat.le_of_ble_eq_true rfl, rfl, rfl, Nat.zero_le _, Nat.zero_le _⟩ rfl rfl (Nat.le_of_ble_eq_true rfl) dX4_lay_52 ?_
    refine v_aloadn C dX4_lay_55 rfl ?_
    refine v_iloadn C dX4_lay_56 rfl ?_
    refine v_iconst C dX4_lay_57 (v := 2) (by decide) ?_
    refine v_iloadn C dX4_lay_58 rfl ?_
    obtain ⟨G12, e11, hsh⟩ := obv_e hsh
    refine v_callV (nP := 3) (k := 71) C (by decide) rfl rfl (c_X4_put l D t ad hI  e11) k595 k592 k594 kp23 k5 yo_X4_put ⟨Nat.le_of_ble_eq_true rfl, Nat.le_of_ble_eq_true rfl, rfl, rfl, Nat.zero_le _, Nat.zero_le _⟩ rfl rfl (Nat.le_of_ble_eq_true rfl) dX4_lay_59 ?_
    refine v_aloadn C dX4_lay_62 rfl ?_
    refine v_iloadn C dX4_lay_63 rfl ?_
    refine v_iconst C dX4_lay_64 (v := 3) (by decide) ?_
    refine v_iconst C dX4_lay_65 (v := 1) (by decide) ?_
    obtain ⟨G14, e13, hsh⟩ := obv_e hsh
    refine v_callV (nP := 3) (k := 71) C (by decide) rfl rfl (c_X4_put l D t ad hI  e13) k595 k592 k594 kp23 k5 yo_X4_put ⟨Nat.le_of_ble_eq_true rfl, Nat.le_of_ble_eq_true rfl, rfl, rfl, Nat.zero_le _, Nat.zero_le _⟩ rfl rfl (Nat.le_of_ble_eq_true rfl) dX4_lay_66 ?_
    obtain rfl := so_1 hsh
    exact v_vret C dX4_lay_69
  refine v_iconst C dX4_lay_0 (v := 0) (by decide) ?_
  refine v_istore C dX4_lay_1 (by decide) ?_
  refine v_wk (lp_X4_lay_3 C hI (fun l1 l2 l3 G hsh => ?_) FU _ _ _ _ _ hsh) (wk_of (And.intro rfl (And.intro rfl (And.intro rfl (And.intro rfl (And.intro rfl trivial))))))
  refine v_aloadn C dX4_lay_24 rfl ?_
  refine v_iloadn C dX4_lay_25 rfl ?_
  refine v_iconst C dX4_lay_26 (v := 0) (by decide) ?_
  refine v_iconst C dX4_lay_27 (v := 1) (by decide) ?_
  obtain ⟨G4, e3, hsh⟩ := obv_e hsh
  refine v_callV (nP := 3) (k := 71) C (by decide) rfl rfl (c_X4_put l D t ad hI  e3) k595 k592 k594 kp23 k5 yo_X4_put ⟨Nat.le_of_ble_eq_true rfl, Nat.le_of_ble_eq_true rfl, rfl, rfl, Nat.zero_le _, Nat.zero_le _⟩ rfl rfl (Nat.le_of_ble_eq_true rfl) dX4_lay_28 ?_
  refine v_aloadn C dX4_lay_31 rfl ?_
  refine v_iloadn C dX4_lay_32 rfl ?_
  refine v_iconst C dX4_lay_33 (v := 1) (by decide) ?_
  refine v_iloadn C dX4_lay_34 rfl ?_
  refine v_aloadn C dX4_lay_35 rfl ?_
  obtain ⟨r6, e5, hsh⟩ := obp_e hsh
  refine v_callI (nP := 0) (k := 71) C (by decide) rfl rfl (c_X4_round l D t ad hI  e5) k599 k596 k598 kp24 k5 yo_X4_round ⟨Nat.le_of_ble_eq_true rfl, Nat.le_of_ble_eq_true rfl, rfl, rfl, Nat.zero_le _, Nat.zero_le _⟩ rfl rfl (Nat.le_of_ble_eq_true rfl) dX4_lay_36 ?_
  refine v_ic_ge C 46 dX4_lay_39 (by decide) (fun hc => ?_) (fun hc => ?_)
  · replace hsh := ite_p hc hsh
    refine v_aloadn C dX4_lay_46 rfl ?_
    obtain ⟨r8, e7, hsh⟩ := obp_e hsh
    refine v_callI (nP := 0) (k := 71) C (by decide) rfl rfl (c_X4_round l D t ad hI  e7) k599 k596 k598 kp24 k5 yo_X4_round ⟨Nat.le_of_ble_eq_true rfl, Nat.le_of_ble_eq_true rfl, rfl, rfl, Nat.zero_le _, Nat.zero_le _⟩ rfl rfl (Nat.le_of_ble_eq_true rfl) dX4_lay_47 ?_
    refine v_iconst C dX4_lay_50 (v := 1) (by decide) ?_
    refine v_isub C dX4_lay_51 ?_
    exact v_wk (hj52 _ _ _ _ _ _ hsh) (wk_of (And.intro rfl (And.intro rfl (And.intro rfl trivial))))
  · replace hsh := ite_n hc hsh
    refine v_iloadn C dX4_lay_42 rfl ?_
    refine v_goto C 52 dX4_lay_43 (by decide) ?_
    exact v_wk (hj52 _ _ _ _ _ _ hsh) (wk_of (And.intro rfl (And.intro rfl (And.intro rfl trivial))))
theorem yo_X4_lay : yOk yX4_lay 3 := ⟨by decide, by decide, by decide +kernel⟩

def sh_X4_come_33  (kt55 : Int32 → Int32 → Int32 → gG → Option (Int32 × gG)) : Nat → Int32 → Int32 → Int32 → gG → Option (Int32 × gG)
  | 0, _, _, _, _ => none
  | n + 1, l1, l2, l3, G => (if (16 : Int32) ≤ l3 then kt55 l1 l2 l3 G else (obp (sh_X4_of l3 (0 : Int32) G) fun r2 => (if r2 = (1 : Int32) then sh_X4_come_33 kt55 n l1 l2 (l3 + 1) G else kt55 l1 l2 l3 G)))
def sh_X4_come_j55 (l1 : Int32) (l2 : Int32) (l3 : Int32) (G : gG) : Option (Int32 × gG) := (if l3 = (16 : Int32) then some ((-3 : Int32), G) else (obv (sh_X4_record G) fun G4 => (obv (sh_X4_lay l3 ((100 : Int32) * l1) l2 G4) fun G6 => some (l3, G6))))
def sh_X4_come (l1 : Int32) (l2 : Int32) (G : gG) : Option (Int32 × gG) := (if (sh_X4_in l1 (0 : Int32) ((G 72 ((5 : Int32)).toNatClampNeg) - (1 : Int32))) = (0 : Int32) then some ((-2 : Int32), G) else (if (sh_X4_in l2 (50 : Int32) (150 : Int32)) = (0 : Int32) then some ((-2 : Int32), G) else (sh_X4_come_33 (fun l1 l2 l3 G => (sh_X4_come_j55 l1 l2 l3 G)) FU l1 l2 (0 : Int32) G)))
set_option maxRecDepth 100000 in
set_option maxHeartbeats 4000000 in
theorem lp_X4_come_33 {p : Program} {l : Launch} {e : Env} {s : State} {m : MethodId} {args : Array Value} {below : List Frame} {meth : Method} {c : Code} {D : va_G} {t : gT} {ad : Nat → Nat} (C : gC p s m args meth c cX4_come RX4 4 (some .int) (isW ad) D t ad) (hI : gI ad) {r0 : Int32} {G0 : gG} {kt55 : Int32 → Int32 → Int32 → gG → Option (Int32 × gG)} (hk55 : ∀ (l1 : Int32) (l2 : Int32) (l3 : Int32) (G : gG) , kt55 l1 l2 l3 G = some (r0, G0) → V p l e (rM 2 47) s m args below meth c (isW ad) D t ad 0 0 4 (Qi below D t ad args s r0 G0) G 55 [some (.ref (ad 71)), some (.int l1), some (.int l2), some (.int l3)] []) : ∀ (n : Nat) (l1 : Int32) (l2 : Int32) (l3 : Int32) (G : gG) , sh_X4_come_33 kt55 n l1 l2 l3 G = some (r0, G0) → V p l e (rM 2 47) s m args below meth c (isW ad) D t ad 0 0 4 (Qi below D t ad args s r0 G0) G 33 [some (.ref (ad 71)), some (.int l1), some (.int l2), some (.int l3)] [] := by
  intro n
  induction n with
  | zero => intro l1 l2 l3 G hsh; rw [sh_X4_come_33.eq_1] at hsh; cases hsh
  | succ n ih =>
    intro l1 l2 l3 G hsh
    rw [sh_X4_come_33.eq_2] at hsh
    refine v_iloadn C dX4_come_33 rfl ?_
    refine v_bipush C dX4_come_34 (v := 16) (by decide) ?_
    refine v_ic_ge C 55 dX4_come_36 (by decide) (fun hc => ?_) (fun hc => ?_)
    · replace hsh := ite_p hc hsh
      exact v_wk (hk55 _ _ _ _ hsh) (wk_of (And.intro rfl (And.intro rfl (And.intro rfl (And.intro rfl trivial)))))
    · replace hsh := ite_n hc hsh
      refine v_aloadn C dX4_come_39 rfl ?_
      refine v_iloadn C dX4_come_40 rfl ?_
      refine v_iconst C dX4_come_41 (v := 0) (by decide) ?_
      obtain ⟨r2, e1, hsh⟩ := obp_e hsh
      refine v_callI (nP := 2) (k := 71) C (by decide) rfl rfl (c_X4_of l D t ad hI  e1) k580 k577 k579 kp20 k5 yo_X4_of ⟨Nat.le_of_ble_eq_true rfl, Nat.le_of_ble_eq_true rfl, rfl, rfl, Nat.zero_le _, Nat.zero_le _⟩ rfl rfl (Nat.le_of_ble_eq_true rfl) dX4_come_42 ?_
      refine v_iconst C dX4_come_45 (v := 1) (by decide) ?_
      refine v_ic_ne C 55 dX4_come_46 (by decide) (fun hc => ?_) (fun hc => ?_)
      · replace hsh := ite_n hc hsh
        exact v_wk (hk55 _ _ _ _ hsh) (wk_of (And.intro rfl (And.intro rfl (And.intro rfl (And.intro rfl trivial)))))
      · replace hsh := ite_p hc hsh
        refine v_iinc C dX4_come_49 rfl (v := 1) (by decide) (by decide) ?_
        refine v_goto C 33 dX4_come_52 (by decide) ?_
        exact v_wk (ih _ _ _ _ hsh) (wk_of (And.intro rfl (And.intro rfl (And.intro rfl (And.intro rfl trivial)))))
set_option maxRecDepth 100000 in
set_option maxHeartbeats 4000000 in
theorem c_X4_come (l : Launch) (D : va_G) (t : gT) (ad : Nat → Nat) (hI : gI ad) {l1 : Int32} {l2 : Int32} {G : gG} {r0 : Int32} {G0 : gG} (hsh : sh_X4_come l1 l2 G = some (r0, G0)) : Mi l D t ad yX4_come cX4_come 4 (some .int) (rM 2 47) [.ref (ad 71), .int l1, .int l2] G r0 G0 := by
  refine m_go hI RX4 rfl (by decide +kernel) ⟨rfl, rfl⟩ (Nat.le_of_ble_eq_true rfl) rfl [some (.ref (ad 71)), some (.int l1), some (.int l2), none] rfl (fun p e s m args below meth c C => ?_)
  unfold sh_X4_come at hsh
  have hj55 : ∀ (l1 : Int32) (l2 : Int32) (l3 : Int32) (G : gG) , sh_X4_come_j55 l1 l2 l3 G = some (r0, G0) → V p l e (rM 2 47) s m args below meth c (isW ad) D t ad 0 0 4 (Qi below D t ad args s r0 G0) G 55 [some (.ref (ad 71)), some (.int l1), some (.int l2), some (.int l3)] [] := by
    intro l1 l2 l3 G hsh
    unfold sh_X4_come_j55 at hsh
    refine v_iloadn C dX4_come_55 rfl ?_
    refine v_bipush C dX4_come_56 (v := 16) (by decide) ?_
    refine v_ic_ne C 64 dX4_come_58 (by decide) (fun hc => ?_) (fun hc => ?_)
    · replace hsh := ite_n hc hsh
      refine v_aloadn C dX4_come_64 rfl ?_
      obtain ⟨G4, e3, hsh⟩ := obv_e hsh
      refine v_callV (nP := 0) (k := 71) C (by decide) rfl rfl (c_X4_record l D t ad hI  e3) k584 k581 k583 kp21 k5 yo_X4_record ⟨Nat.le_of_ble_eq_true rfl, Nat.le_of_ble_eq_true rfl, rfl, rfl, Nat.zero_le _, Nat.zero_le _⟩ rfl rfl (Nat.le_of_ble_eq_true rfl) dX4_come_65 ?_
      refine v_aloadn C dX4_come_68 rfl ?_
      refine v_iloadn C dX4_come_69 rfl ?_
      refine v_bipush C dX4_come_70 (v := 100) (by decide) ?_
      refine v_iloadn C dX4_come_72 rfl ?_
      refine v_imul C dX4_come_73 ?_
      refine v_iloadn C dX4_come_74 rfl ?_
      obtain ⟨G6, e5, hsh⟩ := obv_e hsh
      refine v_callV (nP := 3) (k := 71) C (by decide) rfl rfl (c_X4_lay l D t ad hI  e5) k591 k588 k590 kp22 k5 yo_X4_lay ⟨Nat.le_of_ble_eq_true rfl, Nat.le_of_ble_eq_true rfl, rfl, rfl, Nat.zero_le _, Nat.zero_le _⟩ rfl rfl (Nat.le_of_ble_eq_true rfl) dX4_come_75 ?_
      refine v_iloadn C dX4_come_78 rfl ?_
      obtain ⟨rfl, rfl⟩ := so_i hsh
      exact v_iret C dX4_come_79
    · replace hsh := ite_p hc hsh
      refine v_bipush C dX4_come_61 (v := -3) (by decide) ?_
      obtain ⟨rfl, rfl⟩ := so_i hsh
      exact v_iret C dX4_come_63
  refine v_iloadn C dX4_come_0 rfl ?_
  refine v_iconst C dX4_come_1 (v := 0) (by decide) ?_
  refine v_aloadn C dX4_come_2 rfl ?_
  refine f4_0 C dX4_come_3 ?_
  refine v_iconst C dX4_come_6 (v := 5) (by decide) ?_
  refine v_ld C (k := 72) (by decide) rfl (gin_in (by decide)) dX4_come_7 ?_
  refine v_iconst C dX4_come_8 (v := 1) (by decide) ?_
  refine v_isub C dX4_come_9 ?_
  refine v_callS (nP := 3) C (c_X4_in l D t ad hI  (G := G) rfl) k576 k574 k575 k5 yo_X4_in ⟨Nat.le_of_ble_eq_true rfl, Nat.le_of_ble_eq_true rfl, rfl, rfl, Nat.zero_le _, Nat.zero_le _⟩ rfl rfl (Nat.le_of_ble_eq_true rfl) dX4_come_10 ?_
  refine v_if_eq C 28 dX4_come_13 (by decide) (fun hc => ?_) (fun hc => ?_)
  · replace hsh := ite_p hc hsh
    refine v_bipush C dX4_come_28 (v := -2) (by decide) ?_
    obtain ⟨rfl, rfl⟩ := so_i hsh
    exact v_iret C dX4_come_30
  · replace hsh := ite_n hc hsh
    refine v_iloadn C dX4_come_16 rfl ?_
    refine v_bipush C dX4_come_17 (v := 50) (by decide) ?_
    refine v_sipush C dX4_come_19 (v := 150) (by decide) ?_
    refine v_callS (nP := 3) C (c_X4_in l D t ad hI  (G := G) rfl) k576 k574 k575 k5 yo_X4_in ⟨Nat.le_of_ble_eq_true rfl, Nat.le_of_ble_eq_true rfl, rfl, rfl, Nat.zero_le _, Nat.zero_le _⟩ rfl rfl (Nat.le_of_ble_eq_true rfl) dX4_come_22 ?_
    refine v_if_ne C 31 dX4_come_25 (by decide) (fun hc => ?_) (fun hc => ?_)
    · replace hsh := ite_n hc hsh
      refine v_iconst C dX4_come_31 (v := 0) (by decide) ?_
      refine v_istoren C dX4_come_32 (by decide) ?_
      refine v_wk (lp_X4_come_33 C hI (fun l1 l2 l3 G hsh => ?_) FU _ _ _ _ hsh) (wk_of (And.intro rfl (And.intro rfl (And.intro rfl (And.intro rfl trivial)))))
      exact v_wk (hj55 _ _ _ _ hsh) (wk_of (And.intro rfl (And.intro rfl (And.intro rfl (And.intro rfl trivial)))))
    · replace hsh := ite_p hc hsh
      refine v_bipush C dX4_come_28 (v := -2) (by decide) ?_
      obtain ⟨rfl, rfl⟩ := so_i hsh
      exact v_iret C dX4_come_30
theorem yo_X4_come : yOk yX4_come 2 := ⟨by decide, by decide, by decide +kernel⟩

def sh_X4_connect_j73 (x1 : Int32) (x2 : Int32) (x3 : Int32) (G : gG) : Option (gG) := (obv (sh_X4_put x1 x2 x3 G) fun G8 => some G8)
def sh_X4_connect_j35 (l1 : Int32) (l2 : Int32) (l3 : Int32) (x1 : Int32) (x2 : Int32) (x3 : Int32) (G : gG) : Option (gG) := (obv (sh_X4_put x1 x2 x3 G) fun G4 => (if l3 = (0 : Int32) then (obp (sh_X4_of l2 (8 : Int32) G4) fun r6 => (sh_X4_connect_j73 l2 (8 : Int32) (r6 &&& (((1 : Int32) <<< (l1 &&& 31)) ^^^ (-1 : Int32))) G4)) else (obp (sh_X4_of l2 (8 : Int32) G4) fun r10 => (sh_X4_connect_j73 l2 (8 : Int32) (r10 ||| ((1 : Int32) <<< (l1 &&& 31))) G4))))
def sh_X4_connect (l1 : Int32) (l2 : Int32) (l3 : Int32) (G : gG) : Option (gG) := (if l3 = (0 : Int32) then (obp (sh_X4_of l1 (8 : Int32) G) fun r2 => (sh_X4_connect_j35 l1 l2 l3 l1 (8 : Int32) (r2 &&& (((1 : Int32) <<< (l2 &&& 31)) ^^^ (-1 : Int32))) G)) else (obp (sh_X4_of l1 (8 : Int32) G) fun r12 => (sh_X4_connect_j35 l1 l2 l3 l1 (8 : Int32) (r12 ||| ((1 : Int32) <<< (l2 &&& 31))) G)))
set_option maxRecDepth 100000 in
set_option maxHeartbeats 4000000 in
theorem c_X4_connect (l : Launch) (D : va_G) (t : gT) (ad : Nat → Nat) (hI : gI ad) {l1 : Int32} {l2 : Int32} {l3 : Int32} {G : gG} {G0 : gG} (hsh : sh_X4_connect l1 l2 l3 G = some G0) : Mv l D t ad yX4_connect cX4_connect 4 (rM 1 23) [.ref (ad 71), .int l1, .int l2, .int l3] G G0 := by
  refine m_go hI RX4 rfl (by decide +kernel) ⟨rfl, rfl⟩ (Nat.le_of_ble_eq_true rfl) rfl [some (.ref (ad 71)), some (.int l1), some (.int l2), some (.int l3)] rfl (fun p e s m args below meth c C => ?_)
  unfold sh_X4_connect at hsh
  have hj73 : ∀ (x1 : Int32) (x2 : Int32) (x3 : Int32) (G : gG) , sh_X4_connect_j73 x1 x2 x3 G = some G0 → V p l e (rM 1 23) s m args below meth c (isW ad) D t ad 0 0 4 (Qv below D t ad args s G0) G 73 [none, none, none, none] [.int x3, .int x2, .int x1, .ref (ad 71)] := by
    intro x1 x2 x3 G hsh
    unfold sh_X4_connect_j73 at hsh
    obtain ⟨G8, e7, hsh⟩ := obv_e hsh
    refine v_callV (nP := 3) (k := 71) C (by decide) rfl rfl (c_X4_put l D t ad hI  e7) k595 k592 k594 kp23 k5 yo_X4_put ⟨Nat.le_of_ble_eq_true rfl, Nat.le_of_ble_eq_true rfl, rfl, rfl, Nat.zero_le _, Nat.zero_le _⟩ rfl rfl (Nat.le_of_ble_eq_true rfl) dX4_connect_73 ?_
    obtain rfl := so_1 hsh
    exact v_vret C dX4_connect_76
  have hj35 : ∀ (l1 : Int32) (l2 : Int32) (l3 : Int32) (x1 : Int32) (x2 : Int32) (x3 : Int32) (G : gG) , sh_X4_connect_j35 l1 l2 l3 x1 x2 x3 G = some G0 → V p l e (rM 1 23) s m args below meth c (isW ad) D t ad 0 0 4 (Qv below D t ad args s G0) G 35 [some (.ref (ad 71)), some (.int l1), some (.int l2), some (.int l3)] [.int x3, .int x2, .int x1, .ref (ad 71)] := by
    intro l1 l2 l3 x1 x2 x3 G hsh
    unfold sh_X4_connect_j35 at hsh
    obtain ⟨G4, e3, hsh⟩ := obv_e hsh
    refine v_callV (nP := 3) (k := 71) C (by decide) rfl rfl (c_X4_put l D t ad hI  e3) k595 k592 k594 kp23 k5 yo_X4_put ⟨Nat.le_of_ble_eq_true rfl, Nat.le_of_ble_eq_true rfl, rfl, rfl, Nat.zero_le _, Nat.zero_le _⟩ rfl rfl (Nat.le_of_ble_eq_true rfl) dX4_connect_35 ?_
    refine v_aloadn C dX4_connect_38 rfl ?_
    refine v_iloadn C dX4_connect_39 rfl ?_
    refine v_bipush C dX4_connect_40 (v := 8) (by decide) ?_
    refine v_iloadn C dX4_connect_42 rfl ?_
    refine v_if_eq C 60 dX4_connect_43 (by decide) (fun hc => ?_) (fun hc => ?_)
    · replace hsh := ite_p hc hsh
      refine v_aloadn C dX4_connect_60 rfl ?_
      refine v_iloadn C dX4_connect_61 rfl ?_
      refine v_bipush C dX4_connect_62 (v := 8) (by decide) ?_
      obtain ⟨r6, e5, hsh⟩ := obp_e hsh
      refine v_callI (nP := 2) (k := 71) C (by decide) rfl rfl (c_X4_of l D t ad hI  e5) k580 k577 k579 kp20 k5 yo_X4_of ⟨Nat.le_of_ble_eq_true rfl, Nat.le_of_ble_eq_true rfl, rfl, rfl, Nat.zero_le _, Nat.zero_le _⟩ rfl rfl (Nat.le_of_ble_eq_true rfl) dX4_connect_64 ?_
      refine v_iconst C dX4_connect_67 (v := 1) (by decide) ?_
      refine v_iloadn C dX4_connect_68 rfl ?_
      refine v_ishl C dX4_connect_69 ?_
      refine v_iconst C dX4_connect_70 (v := -1) (by decide) ?_
      refine v_ixor C dX4_connect_71 ?_
      refine v_iand C dX4_connect_72 ?_
      exact v_wk (hj73 _ _ _ _ hsh) (wk_of trivial)
    · replace hsh := ite_n hc hsh
      refine v_aloadn C dX4_connect_46 rfl ?_
      refine v_iloadn C dX4_connect_47 rfl ?_
      refine v_bipush C dX4_connect_48 (v := 8) (by decide) ?_
      obtain ⟨r10, e9, hsh⟩ := obp_e hsh
      refine v_callI (nP := 2) (k := 71) C (by decide) rfl rfl (c_X4_of l D t ad hI  e9) k580 k577 k579 kp20 k5 yo_X4_of ⟨Nat.le_of_ble_eq_true rfl, Nat.le_of_ble_eq_true rfl, rfl, rfl, Nat.zero_le _, Nat.zero_le _⟩ rfl rfl (Nat.le_of_ble_eq_true rfl) dX4_connect_50 ?_
      refine v_iconst C dX4_connect_53 (v := 1) (by decide) ?_
      refine v_iloadn C dX4_connect_54 rfl ?_
      refine v_ishl C dX4_connect_55 ?_
      refine v_ior C dX4_connect_56 ?_
      refine v_goto C 73 dX4_connect_57 (by decide) ?_
      exact v_wk (hj73 _ _ _ _ hsh) (wk_of trivial)
  refine v_aloadn C dX4_connect_0 rfl ?_
  refine v_iloadn C dX4_connect_1 rfl ?_
  refine v_bipush C dX4_connect_2 (v := 8) (by decide) ?_
  refine v_iloadn C dX4_connect_4 rfl ?_
  refine v_if_eq C 22 dX4_connect_5 (by decide) (fun hc => ?_) (fun hc => ?_)
  · replace hsh := ite_p hc hsh
    refine v_aloadn C dX4_connect_22 rfl ?_
    refine v_iloadn C dX4_connect_23 rfl ?_
    refine v_bipush C dX4_connect_24 (v := 8) (by decide) ?_
    obtain ⟨r2, e1, hsh⟩ := obp_e hsh
    refine v_callI (nP := 2) (k := 71) C (by decide) rfl rfl (c_X4_of l D t ad hI  e1) k580 k577 k579 kp20 k5 yo_X4_of ⟨Nat.le_of_ble_eq_true rfl, Nat.le_of_ble_eq_true rfl, rfl, rfl, Nat.zero_le _, Nat.zero_le _⟩ rfl rfl (Nat.le_of_ble_eq_true rfl) dX4_connect_26 ?_
    refine v_iconst C dX4_connect_29 (v := 1) (by decide) ?_
    refine v_iloadn C dX4_connect_30 rfl ?_
    refine v_ishl C dX4_connect_31 ?_
    refine v_iconst C dX4_connect_32 (v := -1) (by decide) ?_
    refine v_ixor C dX4_connect_33 ?_
    refine v_iand C dX4_connect_34 ?_
    exact v_wk (hj35 _ _ _ _ _ _ _ hsh) (wk_of (And.intro rfl (And.intro rfl (And.intro rfl (And.intro rfl trivial)))))
  · replace hsh := ite_n hc hsh
    refine v_aloadn C dX4_connect_8 rfl ?_
    refine v_iloadn C dX4_connect_9 rfl ?_
    refine v_bipush C dX4_connect_10 (v := 8) (by decide) ?_
    obtain ⟨r12, e11, hsh⟩ := obp_e hsh
    refine v_callI (nP := 2) (k := 71) C (by decide) rfl rfl (c_X4_of l D t ad hI  e11) k580 k577 k579 kp20 k5 yo_X4_of ⟨Nat.le_of_ble_eq_true rfl, Nat.le_of_ble_eq_true rfl, rfl, rfl, Nat.zero_le _, Nat.zero_le _⟩ rfl rfl (Nat.le_of_ble_eq_true rfl) dX4_connect_12 ?_
    refine v_iconst C dX4_connect_15 (v := 1) (by decide) ?_
    refine v_iloadn C dX4_connect_16 rfl ?_
    refine v_ishl C dX4_connect_17 ?_
    refine v_ior C dX4_connect_18 ?_
    refine v_goto C 35 dX4_connect_19 (by decide) ?_
    exact v_wk (hj35 _ _ _ _ _ _ _ hsh) (wk_of (And.intro rfl (And.intro rfl (And.intro rfl (And.intro rfl trivial)))))
theorem yo_X4_connect : yOk yX4_connect 3 := ⟨by decide, by decide, by decide +kernel⟩

def sh_X4_goAway_27  (kt59 : Int32 → Int32 → gG → Option (Int32 × gG)) : Nat → Int32 → Int32 → Int32 → gG → Option (Int32 × gG)
  | 0, _, _, _, _ => none
  | n + 1, l1, l2, l3, G => (if (16 : Int32) ≤ l3 then kt59 l1 l2 G else (obp (sh_X4_of l3 (8 : Int32) G) fun r10 => (obv (sh_X4_put l3 (8 : Int32) (r10 &&& (((1 : Int32) <<< (l1 &&& 31)) ^^^ (-1 : Int32))) G) fun G12 => sh_X4_goAway_27 kt59 n l1 l2 (l3 + 1) G12)))
def sh_X4_goAway (l1 : Int32) (G : gG) : Option (Int32 × gG) := (obp (sh_X4_isLamp l1 G) fun r2 => (if r2 = (0 : Int32) then some ((-1 : Int32), G) else (obv (sh_X4_record G) fun G4 => (obp (sh_X4_of l1 (8 : Int32) G4) fun r6 => (obp (sh_X4_bits r6) fun r8 => (sh_X4_goAway_27 (fun l1 l2 G => (obv (sh_X4_put l1 (0 : Int32) (0 : Int32) G) fun G14 => (obv (sh_X4_put l1 (8 : Int32) (0 : Int32) G14) fun G16 => some (l2, G16)))) FU l1 r8 (0 : Int32) G4))))))
set_option maxRecDepth 100000 in
set_option maxHeartbeats 4000000 in
theorem lp_X4_goAway_27 {p : Program} {l : Launch} {e : Env} {s : State} {m : MethodId} {args : Array Value} {below : List Frame} {meth : Method} {c : Code} {D : va_G} {t : gT} {ad : Nat → Nat} (C : gC p s m args meth c cX4_goAway RX4 4 (some .int) (isW ad) D t ad) (hI : gI ad) {r0 : Int32} {G0 : gG} {kt59 : Int32 → Int32 → gG → Option (Int32 × gG)} (hk59 : ∀ (l1 : Int32) (l2 : Int32) (G : gG) , kt59 l1 l2 G = some (r0, G0) → V p l e (rM 2 45) s m args below meth c (isW ad) D t ad 0 0 4 (Qi below D t ad args s r0 G0) G 59 [some (.ref (ad 71)), some (.int l1), some (.int l2), none] []) : ∀ (n : Nat) (l1 : Int32) (l2 : Int32) (l3 : Int32) (G : gG) , sh_X4_goAway_27 kt59 n l1 l2 l3 G = some (r0, G0) → V p l e (rM 2 45) s m args below meth c (isW ad) D t ad 0 0 4 (Qi below D t ad args s r0 G0) G 27 [some (.ref (ad 71)), some (.int l1), some (.int l2), some (.int l3)] [] := by
  intro n
  induction n with
  | zero => intro l1 l2 l3 G hsh; rw [sh_X4_goAway_27.eq_1] at hsh; cases hsh
  | succ n ih =>
    intro l1 l2 l3 G hsh
    rw [sh_X4_goAway_27.eq_2] at hsh
    refine v_iloadn C dX4_goAway_27 rfl ?_
    refine v_bipush C dX4_goAway_28 (v := 16) (by decide) ?_
    refine v_ic_ge C 59 dX4_goAway_30 (by decide) (fun hc => ?_) (fun hc => ?_)
    · replace hsh := ite_p hc hsh
      exact v_wk (hk59 _ _ _ hsh) (wk_of (And.intro rfl (And.intro rfl (And.intro rfl trivial))))
    · replace hsh := ite_n hc hsh
      refine v_aloadn C dX4_goAway_33 rfl ?_
      refine v_iloadn C dX4_goAway_34 rfl ?_
      refine v_bipush C dX4_goAway_35 (v := 8) (by decide) ?_
      refine v_aloadn C dX4_goAway_37 rfl ?_
      refine v_iloadn C dX4_goAway_38 rfl ?_
      refine v_bipush C dX4_goAway_39 (v := 8) (by decide) ?_
      obtain ⟨r10, e9, hsh⟩ := obp_e hsh
      refine v_callI (nP := 2) (k := 71) C (by decide) rfl rfl (c_X4_of l D t ad hI  e9) k580 k577 k579 kp20 k5 yo_X4_of ⟨Nat.le_of_ble_eq_true rfl, Nat.le_of_ble_eq_true rfl, rfl, rfl, Nat.zero_le _, Nat.zero_le _⟩ rfl rfl (Nat.le_of_ble_eq_true rfl) dX4_goAway_41 ?_
      refine v_iconst C dX4_goAway_44 (v := 1) (by decide) ?_
      refine v_iloadn C dX4_goAway_45 rfl ?_
      refine v_ishl C dX4_goAway_46 ?_
      refine v_iconst C dX4_goAway_47 (v := -1) (by decide) ?_
      refine v_ixor C dX4_goAway_48 ?_
      refine v_iand C dX4_goAway_49 ?_
      obtain ⟨G12, e11, hsh⟩ := obv_e hsh
      refine v_callV (nP := 3) (k := 71) C (by decide) rfl rfl (c_X4_put l D t ad hI  e11) k595 k592 k594 kp23 k5 yo_X4_put ⟨Nat.le_of_ble_eq_true rfl, Nat.le_of_ble_eq_true rfl, rfl, rfl, Nat.zero_le _, Nat.zero_le _⟩ rfl rfl (Nat.le_of_ble_eq_true rfl) dX4_goAway_50 ?_
      refine v_iinc C dX4_goAway_53 rfl (v := 1) (by decide) (by decide) ?_
      refine v_goto C 27 dX4_goAway_56 (by decide) ?_
      exact v_wk (ih _ _ _ _ hsh) (wk_of (And.intro rfl (And.intro rfl (And.intro rfl (And.intro rfl trivial)))))
set_option maxRecDepth 100000 in
set_option maxHeartbeats 4000000 in
theorem c_X4_goAway (l : Launch) (D : va_G) (t : gT) (ad : Nat → Nat) (hI : gI ad) {l1 : Int32} {G : gG} {r0 : Int32} {G0 : gG} (hsh : sh_X4_goAway l1 G = some (r0, G0)) : Mi l D t ad yX4_goAway cX4_goAway 4 (some .int) (rM 2 45) [.ref (ad 71), .int l1] G r0 G0 := by
  refine m_go hI RX4 rfl (by decide +kernel) ⟨rfl, rfl⟩ (Nat.le_of_ble_eq_true rfl) rfl [some (.ref (ad 71)), some (.int l1), none, none] rfl (fun p e s m args below meth c C => ?_)
  unfold sh_X4_goAway at hsh
  refine v_aloadn C dX4_goAway_0 rfl ?_
  refine v_iloadn C dX4_goAway_1 rfl ?_
  obtain ⟨r2, e1, hsh⟩ := obp_e hsh
  refine v_callI (nP := 1) (k := 71) C (by decide) rfl rfl (c_X4_isLamp l D t ad hI  e1) k607 k604 k606 kp25 k5 yo_X4_isLamp ⟨Nat.le_of_ble_eq_true rfl, Nat.le_of_ble_eq_true rfl, rfl, rfl, Nat.zero_le _, Nat.zero_le _⟩ rfl rfl (Nat.le_of_ble_eq_true rfl) dX4_goAway_2 ?_
  refine v_if_ne C 10 dX4_goAway_5 (by decide) (fun hc => ?_) (fun hc => ?_)
  · replace hsh := ite_n hc hsh
    refine v_aloadn C dX4_goAway_10 rfl ?_
    obtain ⟨G4, e3, hsh⟩ := obv_e hsh
    refine v_callV (nP := 0) (k := 71) C (by decide) rfl rfl (c_X4_record l D t ad hI  e3) k584 k581 k583 kp21 k5 yo_X4_record ⟨Nat.le_of_ble_eq_true rfl, Nat.le_of_ble_eq_true rfl, rfl, rfl, Nat.zero_le _, Nat.zero_le _⟩ rfl rfl (Nat.le_of_ble_eq_true rfl) dX4_goAway_11 ?_
    refine v_aloadn C dX4_goAway_14 rfl ?_
    refine v_iloadn C dX4_goAway_15 rfl ?_
    refine v_bipush C dX4_goAway_16 (v := 8) (by decide) ?_
    obtain ⟨r6, e5, hsh⟩ := obp_e hsh
    refine v_callI (nP := 2) (k := 71) C (by decide) rfl rfl (c_X4_of l D t ad hI  e5) k580 k577 k579 kp20 k5 yo_X4_of ⟨Nat.le_of_ble_eq_true rfl, Nat.le_of_ble_eq_true rfl, rfl, rfl, Nat.zero_le _, Nat.zero_le _⟩ rfl rfl (Nat.le_of_ble_eq_true rfl) dX4_goAway_18 ?_
    obtain ⟨r8, e7, hsh⟩ := obp_e hsh
    refine v_callS (nP := 1) C (c_X4_bits l D t ad hI  (G := G4) e7) k610 k608 k609 k5 yo_X4_bits ⟨Nat.le_of_ble_eq_true rfl, Nat.le_of_ble_eq_true rfl, rfl, rfl, Nat.zero_le _, Nat.zero_le _⟩ rfl rfl (Nat.le_of_ble_eq_true rfl) dX4_goAway_21 ?_
    refine v_istoren C dX4_goAway_24 (by decide) ?_
    refine v_iconst C dX4_goAway_25 (v := 0) (by decide) ?_
    refine v_istoren C dX4_goAway_26 (by decide) ?_
    refine v_wk (lp_X4_goAway_27 C hI (fun l1 l2 G hsh => ?_) FU _ _ _ _ hsh) (wk_of (And.intro rfl (And.intro rfl (And.intro rfl (And.intro rfl trivial)))))
    refine v_aloadn C dX4_goAway_59 rfl ?_
    refine v_iloadn C dX4_goAway_60 rfl ?_
    refine v_iconst C dX4_goAway_61 (v := 0) (by decide) ?_
    refine v_iconst C dX4_goAway_62 (v := 0) (by decide) ?_
    obtain ⟨G14, e13, hsh⟩ := obv_e hsh
    refine v_callV (nP := 3) (k := 71) C (by decide) rfl rfl (c_X4_put l D t ad hI  e13) k595 k592 k594 kp23 k5 yo_X4_put ⟨Nat.le_of_ble_eq_true rfl, Nat.le_of_ble_eq_true rfl, rfl, rfl, Nat.zero_le _, Nat.zero_le _⟩ rfl rfl (Nat.le_of_ble_eq_true rfl) dX4_goAway_63 ?_
    refine v_aloadn C dX4_goAway_66 rfl ?_
    refine v_iloadn C dX4_goAway_67 rfl ?_
    refine v_bipush C dX4_goAway_68 (v := 8) (by decide) ?_
    refine v_iconst C dX4_goAway_70 (v := 0) (by decide) ?_
    obtain ⟨G16, e15, hsh⟩ := obv_e hsh
    refine v_callV (nP := 3) (k := 71) C (by decide) rfl rfl (c_X4_put l D t ad hI  e15) k595 k592 k594 kp23 k5 yo_X4_put ⟨Nat.le_of_ble_eq_true rfl, Nat.le_of_ble_eq_true rfl, rfl, rfl, Nat.zero_le _, Nat.zero_le _⟩ rfl rfl (Nat.le_of_ble_eq_true rfl) dX4_goAway_71 ?_
    refine v_iloadn C dX4_goAway_74 rfl ?_
    obtain ⟨rfl, rfl⟩ := so_i hsh
    exact v_iret C dX4_goAway_75
  · replace hsh := ite_p hc hsh
    refine v_iconst C dX4_goAway_8 (v := -1) (by decide) ?_
    obtain ⟨rfl, rfl⟩ := so_i hsh
    exact v_iret C dX4_goAway_9
theorem yo_X4_goAway : yOk yX4_goAway 1 := ⟨by decide, by decide, by decide +kernel⟩

def sh_X4_turn_j38 (x1 : Int32) (x2 : Int32) (x3 : Int32) (G : gG) : Option (Int32 × gG) := (obv (sh_X4_put x1 x2 x3 G) fun G8 => (obp (sh_X4_lampsOn G8) fun r10 => (obp (sh_X4_bits r10) fun r12 => some (r12, G8))))
def sh_X4_turn (l1 : Int32) (l2 : Int32) (G : gG) : Option (Int32 × gG) := (obp (sh_X4_isLamp l1 G) fun r2 => (if r2 = (0 : Int32) then some ((-1 : Int32), G) else (obp (sh_X4_isOn l1 G) fun r4 => (if r4 = l2 then some ((-5 : Int32), G) else (obv (sh_X4_record G) fun G6 => (if l2 = (0 : Int32) then (sh_X4_turn_j38 l1 (3 : Int32) (0 : Int32) G6) else (sh_X4_turn_j38 l1 (3 : Int32) (1 : Int32) G6)))))))
set_option maxRecDepth 100000 in
set_option maxHeartbeats 4000000 in
theorem c_X4_turn (l : Launch) (D : va_G) (t : gT) (ad : Nat → Nat) (hI : gI ad) {l1 : Int32} {l2 : Int32} {G : gG} {r0 : Int32} {G0 : gG} (hsh : sh_X4_turn l1 l2 G = some (r0, G0)) : Mi l D t ad yX4_turn cX4_turn 3 (some .int) (rM 3 65) [.ref (ad 71), .int l1, .int l2] G r0 G0 := by
  refine m_go hI RX4 rfl (by decide +kernel) ⟨rfl, rfl⟩ (Nat.le_of_ble_eq_true rfl) rfl [some (.ref (ad 71)), some (.int l1), some (.int l2)] rfl (fun p e s m args below meth c C => ?_)
  unfold sh_X4_turn at hsh
  have hj38 : ∀ (x1 : Int32) (x2 : Int32) (x3 : Int32) (G : gG) , sh_X4_turn_j38 x1 x2 x3 G = some (r0, G0) → V p l e (rM 3 65) s m args below meth c (isW ad) D t ad 0 0 3 (Qi below D t ad args s r0 G0) G 38 [some (.ref (ad 71)), none, none] [.int x3, .int x2, .int x1, .ref (ad 71)] := by
    intro x1 x2 x3 G hsh
    unfold sh_X4_turn_j38 at hsh
    obtain ⟨G8, e7, hsh⟩ := obv_e hsh
    refine v_callV (nP := 3) (k := 71) C (by decide) rfl rfl (c_X4_put l D t ad hI  e7) k595 k592 k594 kp23 k5 yo_X4_put ⟨Nat.le_of_ble_eq_true rfl, Nat.le_of_ble_eq_true rfl, rfl, rfl, Nat.zero_le _, Nat.zero_le _⟩ rfl rfl (Nat.le_of_ble_eq_true rfl) dX4_turn_38 ?_
    refine v_aloadn C dX4_turn_41 rfl ?_
    obtain ⟨r10, e9, hsh⟩ := obp_e hsh
    refine v_callI (nP := 0) (k := 71) C (by decide) rfl rfl (c_X4_lampsOn l D t ad hI  e9) k622 k619 k621 kp27 k5 yo_X4_lampsOn ⟨Nat.le_of_ble_eq_true rfl, Nat.le_of_ble_eq_true rfl, rfl, rfl, Nat.zero_le _, Nat.zero_le _⟩ rfl rfl (Nat.le_of_ble_eq_true rfl) dX4_turn_42 ?_
    obtain ⟨r12, e11, hsh⟩ := obp_e hsh
    refine v_callS (nP := 1) C (c_X4_bits l D t ad hI  (G := G8) e11) k610 k608 k609 k5 yo_X4_bits ⟨Nat.le_of_ble_eq_true rfl, Nat.le_of_ble_eq_true rfl, rfl, rfl, Nat.zero_le _, Nat.zero_le _⟩ rfl rfl (Nat.le_of_ble_eq_true rfl) dX4_turn_45 ?_
    obtain ⟨rfl, rfl⟩ := so_i hsh
    exact v_iret C dX4_turn_48
  refine v_aloadn C dX4_turn_0 rfl ?_
  refine v_iloadn C dX4_turn_1 rfl ?_
  obtain ⟨r2, e1, hsh⟩ := obp_e hsh
  refine v_callI (nP := 1) (k := 71) C (by decide) rfl rfl (c_X4_isLamp l D t ad hI  e1) k607 k604 k606 kp25 k5 yo_X4_isLamp ⟨Nat.le_of_ble_eq_true rfl, Nat.le_of_ble_eq_true rfl, rfl, rfl, Nat.zero_le _, Nat.zero_le _⟩ rfl rfl (Nat.le_of_ble_eq_true rfl) dX4_turn_2 ?_
  refine v_if_ne C 10 dX4_turn_5 (by decide) (fun hc => ?_) (fun hc => ?_)
  · replace hsh := ite_n hc hsh
    refine v_aloadn C dX4_turn_10 rfl ?_
    refine v_iloadn C dX4_turn_11 rfl ?_
    obtain ⟨r4, e3, hsh⟩ := obp_e hsh
    refine v_callI (nP := 1) (k := 71) C (by decide) rfl rfl (c_X4_isOn l D t ad hI  e3) k618 k615 k617 kp26 k5 yo_X4_isOn ⟨Nat.le_of_ble_eq_true rfl, Nat.le_of_ble_eq_true rfl, rfl, rfl, Nat.zero_le _, Nat.zero_le _⟩ rfl rfl (Nat.le_of_ble_eq_true rfl) dX4_turn_12 ?_
    refine v_iloadn C dX4_turn_15 rfl ?_
    refine v_ic_ne C 22 dX4_turn_16 (by decide) (fun hc => ?_) (fun hc => ?_)
    · replace hsh := ite_n hc hsh
      refine v_aloadn C dX4_turn_22 rfl ?_
      obtain ⟨G6, e5, hsh⟩ := obv_e hsh
      refine v_callV (nP := 0) (k := 71) C (by decide) rfl rfl (c_X4_record l D t ad hI  e5) k584 k581 k583 kp21 k5 yo_X4_record ⟨Nat.le_of_ble_eq_true rfl, Nat.le_of_ble_eq_true rfl, rfl, rfl, Nat.zero_le _, Nat.zero_le _⟩ rfl rfl (Nat.le_of_ble_eq_true rfl) dX4_turn_23 ?_
      refine v_aloadn C dX4_turn_26 rfl ?_
      refine v_iloadn C dX4_turn_27 rfl ?_
      refine v_iconst C dX4_turn_28 (v := 3) (by decide) ?_
      refine v_iloadn C dX4_turn_29 rfl ?_
      refine v_if_eq C 37 dX4_turn_30 (by decide) (fun hc => ?_) (fun hc => ?_)
      · replace hsh := ite_p hc hsh
        refine v_iconst C dX4_turn_37 (v := 0) (by decide) ?_
        exact v_wk (hj38 _ _ _ _ hsh) (wk_of (And.intro rfl trivial))
      · replace hsh := ite_n hc hsh
        refine v_iconst C dX4_turn_33 (v := 1) (by decide) ?_
        refine v_goto C 38 dX4_turn_34 (by decide) ?_
        exact v_wk (hj38 _ _ _ _ hsh) (wk_of (And.intro rfl trivial))
    · replace hsh := ite_p hc hsh
      refine v_bipush C dX4_turn_19 (v := -5) (by decide) ?_
      obtain ⟨rfl, rfl⟩ := so_i hsh
      exact v_iret C dX4_turn_21
  · replace hsh := ite_p hc hsh
    refine v_iconst C dX4_turn_8 (v := -1) (by decide) ?_
    obtain ⟨rfl, rfl⟩ := so_i hsh
    exact v_iret C dX4_turn_9
theorem yo_X4_turn : yOk yX4_turn 2 := ⟨by decide, by decide, by decide +kernel⟩

def sh_X4_link (l1 : Int32) (l2 : Int32) (l3 : Int32) (G : gG) : Option (Int32 × gG) := (obp (sh_X4_isLamp l1 G) fun r2 => (if r2 = (0 : Int32) then some ((-1 : Int32), G) else (obp (sh_X4_isLamp l2 G) fun r4 => (if r4 = (0 : Int32) then some ((-1 : Int32), G) else (if l1 = l2 then some ((-2 : Int32), G) else (obp (sh_X4_of l1 (8 : Int32) G) fun r6 => (if (sh_X4_has r6 l2) = l3 then some ((-5 : Int32), G) else (obv (sh_X4_record G) fun G8 => (obv (sh_X4_connect l1 l2 l3 G8) fun G10 => (obp (sh_X4_links G10) fun r12 => some (r12, G10)))))))))))
set_option maxRecDepth 100000 in
set_option maxHeartbeats 4000000 in
theorem c_X4_link (l : Launch) (D : va_G) (t : gT) (ad : Nat → Nat) (hI : gI ad) {l1 : Int32} {l2 : Int32} {l3 : Int32} {G : gG} {r0 : Int32} {G0 : gG} (hsh : sh_X4_link l1 l2 l3 G = some (r0, G0)) : Mi l D t ad yX4_link cX4_link 4 (some .int) (rM 2 46) [.ref (ad 71), .int l1, .int l2, .int l3] G r0 G0 := by
  refine m_go hI RX4 rfl (by decide +kernel) ⟨rfl, rfl⟩ (Nat.le_of_ble_eq_true rfl) rfl [some (.ref (ad 71)), some (.int l1), some (.int l2), some (.int l3)] rfl (fun p e s m args below meth c C => ?_)
  unfold sh_X4_link at hsh
  refine v_aloadn C dX4_link_0 rfl ?_
  refine v_iloadn C dX4_link_1 rfl ?_
  obtain ⟨r2, e1, hsh⟩ := obp_e hsh
  refine v_callI (nP := 1) (k := 71) C (by decide) rfl rfl (c_X4_isLamp l D t ad hI  e1) k607 k604 k606 kp25 k5 yo_X4_isLamp ⟨Nat.le_of_ble_eq_true rfl, Nat.le_of_ble_eq_true rfl, rfl, rfl, Nat.zero_le _, Nat.zero_le _⟩ rfl rfl (Nat.le_of_ble_eq_true rfl) dX4_link_2 ?_
  refine v_if_eq C 16 dX4_link_5 (by decide) (fun hc => ?_) (fun hc => ?_)
  · replace hsh := ite_p hc hsh
    refine v_iconst C dX4_link_16 (v := -1) (by decide) ?_
    obtain ⟨rfl, rfl⟩ := so_i hsh
    exact v_iret C dX4_link_17
  · replace hsh := ite_n hc hsh
    refine v_aloadn C dX4_link_8 rfl ?_
    refine v_iloadn C dX4_link_9 rfl ?_
    obtain ⟨r4, e3, hsh⟩ := obp_e hsh
    refine v_callI (nP := 1) (k := 71) C (by decide) rfl rfl (c_X4_isLamp l D t ad hI  e3) k607 k604 k606 kp25 k5 yo_X4_isLamp ⟨Nat.le_of_ble_eq_true rfl, Nat.le_of_ble_eq_true rfl, rfl, rfl, Nat.zero_le _, Nat.zero_le _⟩ rfl rfl (Nat.le_of_ble_eq_true rfl) dX4_link_10 ?_
    refine v_if_ne C 18 dX4_link_13 (by decide) (fun hc => ?_) (fun hc => ?_)
    · replace hsh := ite_n hc hsh
      refine v_iloadn C dX4_link_18 rfl ?_
      refine v_iloadn C dX4_link_19 rfl ?_
      refine v_ic_ne C 26 dX4_link_20 (by decide) (fun hc => ?_) (fun hc => ?_)
      · replace hsh := ite_n hc hsh
        refine v_aloadn C dX4_link_26 rfl ?_
        refine v_iloadn C dX4_link_27 rfl ?_
        refine v_bipush C dX4_link_28 (v := 8) (by decide) ?_
        obtain ⟨r6, e5, hsh⟩ := obp_e hsh
        refine v_callI (nP := 2) (k := 71) C (by decide) rfl rfl (c_X4_of l D t ad hI  e5) k580 k577 k579 kp20 k5 yo_X4_of ⟨Nat.le_of_ble_eq_true rfl, Nat.le_of_ble_eq_true rfl, rfl, rfl, Nat.zero_le _, Nat.zero_le _⟩ rfl rfl (Nat.le_of_ble_eq_true rfl) dX4_link_30 ?_
        refine v_iloadn C dX4_link_33 rfl ?_
        refine v_callS (nP := 2) C (c_X4_has l D t ad hI  (G := G) rfl) k633 k631 k632 k5 yo_X4_has ⟨Nat.le_of_ble_eq_true rfl, Nat.le_of_ble_eq_true rfl, rfl, rfl, Nat.zero_le _, Nat.zero_le _⟩ rfl rfl (Nat.le_of_ble_eq_true rfl) dX4_link_34 ?_
        refine v_iloadn C dX4_link_37 rfl ?_
        refine v_ic_ne C 44 dX4_link_38 (by decide) (fun hc => ?_) (fun hc => ?_)
        · replace hsh := ite_n hc hsh
          refine v_aloadn C dX4_link_44 rfl ?_
          obtain ⟨G8, e7, hsh⟩ := obv_e hsh
          refine v_callV (nP := 0) (k := 71) C (by decide) rfl rfl (c_X4_record l D t ad hI  e7) k584 k581 k583 kp21 k5 yo_X4_record ⟨Nat.le_of_ble_eq_true rfl, Nat.le_of_ble_eq_true rfl, rfl, rfl, Nat.zero_le _, Nat.zero_le _⟩ rfl rfl (Nat.le_of_ble_eq_true rfl) dX4_link_45 ?_
          refine v_aloadn C dX4_link_48 rfl ?_
          refine v_iloadn C dX4_link_49 rfl ?_
          refine v_iloadn C dX4_link_50 rfl ?_
          refine v_iloadn C dX4_link_51 rfl ?_
          obtain ⟨G10, e9, hsh⟩ := obv_e hsh
          refine v_callV (nP := 3) (k := 71) C (by decide) rfl rfl (c_X4_connect l D t ad hI  e9) k637 k634 k636 kp29 k5 yo_X4_connect ⟨Nat.le_of_ble_eq_true rfl, Nat.le_of_ble_eq_true rfl, rfl, rfl, Nat.zero_le _, Nat.zero_le _⟩ rfl rfl (Nat.le_of_ble_eq_true rfl) dX4_link_52 ?_
          refine v_aloadn C dX4_link_55 rfl ?_
          obtain ⟨r12, e11, hsh⟩ := obp_e hsh
          refine v_callI (nP := 0) (k := 71) C (by decide) rfl rfl (c_X4_links l D t ad hI  e11) k641 k638 k640 kp30 k5 yo_X4_links ⟨Nat.le_of_ble_eq_true rfl, Nat.le_of_ble_eq_true rfl, rfl, rfl, Nat.zero_le _, Nat.zero_le _⟩ rfl rfl (Nat.le_of_ble_eq_true rfl) dX4_link_56 ?_
          obtain ⟨rfl, rfl⟩ := so_i hsh
          exact v_iret C dX4_link_59
        · replace hsh := ite_p hc hsh
          refine v_bipush C dX4_link_41 (v := -5) (by decide) ?_
          obtain ⟨rfl, rfl⟩ := so_i hsh
          exact v_iret C dX4_link_43
      · replace hsh := ite_p hc hsh
        refine v_bipush C dX4_link_23 (v := -2) (by decide) ?_
        obtain ⟨rfl, rfl⟩ := so_i hsh
        exact v_iret C dX4_link_25
    · replace hsh := ite_p hc hsh
      refine v_iconst C dX4_link_16 (v := -1) (by decide) ?_
      obtain ⟨rfl, rfl⟩ := so_i hsh
      exact v_iret C dX4_link_17
theorem yo_X4_link : yOk yX4_link 3 := ⟨by decide, by decide, by decide +kernel⟩

def sh_X4_tune (l1 : Int32) (l2 : Int32) (l3 : Int32) (G : gG) : Option (Int32 × gG) := (obp (sh_X4_isLamp l1 G) fun r2 => (if r2 = (0 : Int32) then some ((-1 : Int32), G) else (if (sh_X4_in l2 (0 : Int32) ((G 72 ((5 : Int32)).toNatClampNeg) - (1 : Int32))) = (0 : Int32) then some ((-2 : Int32), G) else (if (sh_X4_in l3 (50 : Int32) (150 : Int32)) = (0 : Int32) then some ((-2 : Int32), G) else (obv (sh_X4_record G) fun G4 => (obp (sh_X4_of l1 (1 : Int32) G4) fun r6 => (obv (sh_X4_put l1 (1 : Int32) ((100 : Int32) * l2) G4) fun G8 => (obv (sh_X4_put l1 (2 : Int32) l3 G8) fun G10 => some (r6, G10)))))))))
set_option maxRecDepth 100000 in
set_option maxHeartbeats 4000000 in
theorem c_X4_tune (l : Launch) (D : va_G) (t : gT) (ad : Nat → Nat) (hI : gI ad) {l1 : Int32} {l2 : Int32} {l3 : Int32} {G : gG} {r0 : Int32} {G0 : gG} (hsh : sh_X4_tune l1 l2 l3 G = some (r0, G0)) : Mi l D t ad yX4_tune cX4_tune 5 (some .int) (rM 2 45) [.ref (ad 71), .int l1, .int l2, .int l3] G r0 G0 := by
  refine m_go hI RX4 rfl (by decide +kernel) ⟨rfl, rfl⟩ (Nat.le_of_ble_eq_true rfl) rfl [some (.ref (ad 71)), some (.int l1), some (.int l2), some (.int l3), none] rfl (fun p e s m args below meth c C => ?_)
  unfold sh_X4_tune at hsh
  refine v_aloadn C dX4_tune_0 rfl ?_
  refine v_iloadn C dX4_tune_1 rfl ?_
  obtain ⟨r2, e1, hsh⟩ := obp_e hsh
  refine v_callI (nP := 1) (k := 71) C (by decide) rfl rfl (c_X4_isLamp l D t ad hI  e1) k607 k604 k606 kp25 k5 yo_X4_isLamp ⟨Nat.le_of_ble_eq_true rfl, Nat.le_of_ble_eq_true rfl, rfl, rfl, Nat.zero_le _, Nat.zero_le _⟩ rfl rfl (Nat.le_of_ble_eq_true rfl) dX4_tune_2 ?_
  refine v_if_ne C 10 dX4_tune_5 (by decide) (fun hc => ?_) (fun hc => ?_)
  · replace hsh := ite_n hc hsh
    refine v_iloadn C dX4_tune_10 rfl ?_
    refine v_iconst C dX4_tune_11 (v := 0) (by decide) ?_
    refine v_aloadn C dX4_tune_12 rfl ?_
    refine f4_0 C dX4_tune_13 ?_
    refine v_iconst C dX4_tune_16 (v := 5) (by decide) ?_
    refine v_ld C (k := 72) (by decide) rfl (gin_in (by decide)) dX4_tune_17 ?_
    refine v_iconst C dX4_tune_18 (v := 1) (by decide) ?_
    refine v_isub C dX4_tune_19 ?_
    refine v_callS (nP := 3) C (c_X4_in l D t ad hI  (G := G) rfl) k576 k574 k575 k5 yo_X4_in ⟨Nat.le_of_ble_eq_true rfl, Nat.le_of_ble_eq_true rfl, rfl, rfl, Nat.zero_le _, Nat.zero_le _⟩ rfl rfl (Nat.le_of_ble_eq_true rfl) dX4_tune_20 ?_
    refine v_if_eq C 38 dX4_tune_23 (by decide) (fun hc => ?_) (fun hc => ?_)
    · replace hsh := ite_p hc hsh
      refine v_bipush C dX4_tune_38 (v := -2) (by decide) ?_
      obtain ⟨rfl, rfl⟩ := so_i hsh
      exact v_iret C dX4_tune_40
    · replace hsh := ite_n hc hsh
      refine v_iloadn C dX4_tune_26 rfl ?_
      refine v_bipush C dX4_tune_27 (v := 50) (by decide) ?_
      refine v_sipush C dX4_tune_29 (v := 150) (by decide) ?_
      refine v_callS (nP := 3) C (c_X4_in l D t ad hI  (G := G) rfl) k576 k574 k575 k5 yo_X4_in ⟨Nat.le_of_ble_eq_true rfl, Nat.le_of_ble_eq_true rfl, rfl, rfl, Nat.zero_le _, Nat.zero_le _⟩ rfl rfl (Nat.le_of_ble_eq_true rfl) dX4_tune_32 ?_
      refine v_if_ne C 41 dX4_tune_35 (by decide) (fun hc => ?_) (fun hc => ?_)
      · replace hsh := ite_n hc hsh
        refine v_aloadn C dX4_tune_41 rfl ?_
        obtain ⟨G4, e3, hsh⟩ := obv_e hsh
        refine v_callV (nP := 0) (k := 71) C (by decide) rfl rfl (c_X4_record l D t ad hI  e3) k584 k581 k583 kp21 k5 yo_X4_record ⟨Nat.le_of_ble_eq_true rfl, Nat.le_of_ble_eq_true rfl, rfl, rfl, Nat.zero_le _, Nat.zero_le _⟩ rfl rfl (Nat.le_of_ble_eq_true rfl) dX4_tune_42 ?_
        refine v_aloadn C dX4_tune_45 rfl ?_
        refine v_iloadn C dX4_tune_46 rfl ?_
        refine v_iconst C dX4_tune_47 (v := 1) (by decide) ?_
        obtain ⟨r6, e5, hsh⟩ := obp_e hsh
        refine v_callI (nP := 2) (k := 71) C (by decide) rfl rfl (c_X4_of l D t ad hI  e5) k580 k577 k579 kp20 k5 yo_X4_of ⟨Nat.le_of_ble_eq_true rfl, Nat.le_of_ble_eq_true rfl, rfl, rfl, Nat.zero_le _, Nat.zero_le _⟩ rfl rfl (Nat.le_of_ble_eq_true rfl) dX4_tune_48 ?_
        refine v_istore C dX4_tune_51 (by decide) ?_
        refine v_aloadn C dX4_tune_53 rfl ?_
        refine v_iloadn C dX4_tune_54 rfl ?_
        refine v_iconst C dX4_tune_55 (v := 1) (by decide) ?_
        refine v_bipush C dX4_tune_56 (v := 100) (by decide) ?_
        refine v_iloadn C dX4_tune_58 rfl ?_
        refine v_imul C dX4_tune_59 ?_
        obtain ⟨G8, e7, hsh⟩ := obv_e hsh
        refine v_callV (nP := 3) (k := 71) C (by decide) rfl rfl (c_X4_put l D t ad hI  e7) k595 k592 k594 kp23 k5 yo_X4_put ⟨Nat.le_of_ble_eq_true rfl, Nat.le_of_ble_eq_true rfl, rfl, rfl, Nat.zero_le _, Nat.zero_le _⟩ rfl rfl (Nat.le_of_ble_eq_true rfl) dX4_tune_60 ?_
        refine v_aloadn C dX4_tune_63 rfl ?_
        refine v_iloadn C dX4_tune_64 rfl ?_
        refine v_iconst C dX4_tune_65 (v := 2) (by decide) ?_
        refine v_iloadn C dX4_tune_66 rfl ?_
        obtain ⟨G10, e9, hsh⟩ := obv_e hsh
        refine v_callV (nP := 3) (k := 71) C (by decide) rfl rfl (c_X4_put l D t ad hI  e9) k595 k592 k594 kp23 k5 yo_X4_put ⟨Nat.le_of_ble_eq_true rfl, Nat.le_of_ble_eq_true rfl, rfl, rfl, Nat.zero_le _, Nat.zero_le _⟩ rfl rfl (Nat.le_of_ble_eq_true rfl) dX4_tune_67 ?_
        refine v_iload C dX4_tune_70 rfl ?_
        obtain ⟨rfl, rfl⟩ := so_i hsh
        exact v_iret C dX4_tune_72
      · replace hsh := ite_p hc hsh
        refine v_bipush C dX4_tune_38 (v := -2) (by decide) ?_
        obtain ⟨rfl, rfl⟩ := so_i hsh
        exact v_iret C dX4_tune_40
  · replace hsh := ite_p hc hsh
    refine v_iconst C dX4_tune_8 (v := -1) (by decide) ?_
    obtain ⟨rfl, rfl⟩ := so_i hsh
    exact v_iret C dX4_tune_9
theorem yo_X4_tune : yOk yX4_tune 3 := ⟨by decide, by decide, by decide +kernel⟩

def sh_X4_set_j128 (kt137 : Int32 → gG → Option (Int32 × gG)) (self87 : Int32 → Int32 → gG → Option (Int32 × gG)) (l4 : Int32) (l5 : Int32) (x1 : Int32) (x2 : Int32) (x3 : Int32) (G : gG) : Option (Int32 × gG) := (obv (sh_X4_put x1 x2 x3 G) fun G15 => self87 l4 (l5 + 1) G15)
def sh_X4_set_87  (kt137 : Int32 → gG → Option (Int32 × gG)) : Nat → Int32 → Int32 → gG → Option (Int32 × gG)
  | 0, _, _, _ => none
  | n + 1, l4, l5, G => (if (16 : Int32) ≤ l5 then kt137 l4 G else (obp (sh_X4_of l5 (1 : Int32) G) fun r9 => (obp (sh_X4_round G) fun r11 => (if r11 ≤ r9 then (obp (sh_X4_round G) fun r13 => (sh_X4_set_j128 kt137 (sh_X4_set_87 kt137 n) l4 l5 l5 (1 : Int32) (r13 - (1 : Int32)) G)) else (obp (sh_X4_of l5 (1 : Int32) G) fun r17 => (sh_X4_set_j128 kt137 (sh_X4_set_87 kt137 n) l4 l5 l5 (1 : Int32) r17 G))))))
def sh_X4_set_j44 (l1 : Int32) (l2 : Int32) (x0 : Int32) (G : gG) : Option (Int32 × gG) := (if x0 = (0 : Int32) then some ((-2 : Int32), G) else (if gin ((5 : Int32) + l1) 152 = true then (bni (G 72 (((5 : Int32) + l1)).toNatClampNeg) fun z2 => (if z2 = l2 then some ((-5 : Int32), G) else (obv (sh_X4_record G) fun G5 => (bng (gu G5 72 (((5 : Int32) + l1)).toNatClampNeg l2) fun G6 => (sh_X4_set_87 (fun l4 G => some (l4, G)) FU z2 (0 : Int32) G6))))) else none))
def sh_X4_set_j41 (l1 : Int32) (l2 : Int32) (x0 : Int32) (x1 : Int32) (x2 : Int32) (G : gG) : Option (Int32 × gG) := (sh_X4_set_j44 l1 l2 (sh_X4_in x0 x1 x2) G)
def sh_X4_set (l1 : Int32) (l2 : Int32) (G : gG) : Option (Int32 × gG) := (if (sh_X4_in l1 (0 : Int32) (2 : Int32)) = (0 : Int32) then some ((-1 : Int32), G) else (if l1 = (0 : Int32) then (sh_X4_set_j44 l1 l2 (sh_X4_in l2 (10 : Int32) (200 : Int32)) G) else (if l1 = (1 : Int32) then (sh_X4_set_j41 l1 l2 l2 (0 : Int32) (100 : Int32) G) else (sh_X4_set_j41 l1 l2 l2 (0 : Int32) (99 : Int32) G))))
set_option maxRecDepth 100000 in
set_option maxHeartbeats 4000000 in
theorem lp_X4_set_87 {p : Program} {l : Launch} {e : Env} {s : State} {m : MethodId} {args : Array Value} {below : List Frame} {meth : Method} {c : Code} {D : va_G} {t : gT} {ad : Nat → Nat} (C : gC p s m args meth c cX4_set RX4 6 (some .int) (isW ad) D t ad) (hI : gI ad) {r0 : Int32} {G0 : gG} {kt137 : Int32 → gG → Option (Int32 × gG)} (hk137 : ∀ (l4 : Int32) (G : gG) , kt137 l4 G = some (r0, G0) → V p l e (rM 2 45) s m args below meth c (isW ad) D t ad 0 0 6 (Qi below D t ad args s r0 G0) G 137 [none, none, none, none, some (.int l4), none] []) : ∀ (n : Nat) (l4 : Int32) (l5 : Int32) (G : gG) , sh_X4_set_87 kt137 n l4 l5 G = some (r0, G0) → V p l e (rM 2 45) s m args below meth c (isW ad) D t ad 0 0 6 (Qi below D t ad args s r0 G0) G 87 [some (.ref (ad 71)), none, none, none, some (.int l4), some (.int l5)] [] := by
  intro n
  induction n with
  | zero => intro l4 l5 G hsh; rw [sh_X4_set_87.eq_1] at hsh; cases hsh
  | succ n ih =>
    intro l4 l5 G hsh
    rw [sh_X4_set_87.eq_2] at hsh
    have hj128 : ∀ (l4 : Int32) (l5 : Int32) (x1 : Int32) (x2 : Int32) (x3 : Int32) (G : gG) , sh_X4_set_j128 kt137 (sh_X4_set_87 kt137 n) l4 l5 x1 x2 x3 G = some (r0, G0) → V p l e (rM 2 45) s m args below meth c (isW ad) D t ad 0 0 6 (Qi below D t ad args s r0 G0) G 128 [some (.ref (ad 71)), none, none, none, some (.int l4), some (.int l5)] [.int x3, .int x2, .int x1, .ref (ad 71)] := by
      intro l4 l5 x1 x2 x3 G hsh
      unfold sh_X4_set_j128 at hsh
      obtain ⟨G15, e14, hsh⟩ := obv_e hsh
      refine v_callV (nP := 3) (k := 71) C (by decide) rfl rfl (c_X4_put l D t ad hI  e14) k595 k592 k594 kp23 k5 yo_X4_put ⟨Nat.le_of_ble_eq_true rfl, Nat.le_of_ble_eq_true rfl, rfl, rfl, Nat.zero_le _, Nat.zero_le _⟩ rfl rfl (Nat.le_of_ble_eq_true rfl) dX4_set_128 ?_
      refine v_iinc C dX4_set_131 rfl (v := 1) (by decide) (by decide) ?_
      refine v_goto C 87 dX4_set_134 (by decide) ?_
      exact v_wk (ih _ _ _ hsh) (wk_of (And.intro rfl (And.intro rfl (And.intro rfl trivial))))
    refine v_iload C dX4_set_87 rfl ?_
    refine v_bipush C dX4_set_89 (v := 16) (by decide) ?_
    refine v_ic_ge C 137 dX4_set_91 (by decide) (fun hc => ?_) (fun hc => ?_)
    · replace hsh := ite_p hc hsh
      exact v_wk (hk137 _ _ hsh) (wk_of (And.intro rfl trivial))
    · replace hsh := ite_n hc hsh
      refine v_aloadn C dX4_set_94 rfl ?_
      refine v_iload C dX4_set_95 rfl ?_
      refine v_iconst C dX4_set_97 (v := 1) (by decide) ?_
      refine v_aloadn C dX4_set_98 rfl ?_
      refine v_iload C dX4_set_99 rfl ?_
      refine v_iconst C dX4_set_101 (v := 1) (by decide) ?_
      obtain ⟨r9, e8, hsh⟩ := obp_e hsh
      refine v_callI (nP := 2) (k := 71) C (by decide) rfl rfl (c_X4_of l D t ad hI  e8) k580 k577 k579 kp20 k5 yo_X4_of ⟨Nat.le_of_ble_eq_true rfl, Nat.le_of_ble_eq_true rfl, rfl, rfl, Nat.zero_le _, Nat.zero_le _⟩ rfl rfl (Nat.le_of_ble_eq_true rfl) dX4_set_102 ?_
      refine v_aloadn C dX4_set_105 rfl ?_
      obtain ⟨r11, e10, hsh⟩ := obp_e hsh
      refine v_callI (nP := 0) (k := 71) C (by decide) rfl rfl (c_X4_round l D t ad hI  e10) k599 k596 k598 kp24 k5 yo_X4_round ⟨Nat.le_of_ble_eq_true rfl, Nat.le_of_ble_eq_true rfl, rfl, rfl, Nat.zero_le _, Nat.zero_le _⟩ rfl rfl (Nat.le_of_ble_eq_true rfl) dX4_set_106 ?_
      refine v_ic_ge C 122 dX4_set_109 (by decide) (fun hc => ?_) (fun hc => ?_)
      · replace hsh := ite_p hc hsh
        refine v_aloadn C dX4_set_122 rfl ?_
        obtain ⟨r13, e12, hsh⟩ := obp_e hsh
        refine v_callI (nP := 0) (k := 71) C (by decide) rfl rfl (c_X4_round l D t ad hI  e12) k599 k596 k598 kp24 k5 yo_X4_round ⟨Nat.le_of_ble_eq_true rfl, Nat.le_of_ble_eq_true rfl, rfl, rfl, Nat.zero_le _, Nat.zero_le _⟩ rfl rfl (Nat.le_of_ble_eq_true rfl) dX4_set_123 ?_
        refine v_iconst C dX4_set_126 (v := 1) (by decide) ?_
        refine v_isub C dX4_set_127 ?_
        exact v_wk (hj128 _ _ _ _ _ _ hsh) (wk_of (And.intro rfl (And.intro rfl (And.intro rfl trivial))))
      · replace hsh := ite_n hc hsh
        refine v_aloadn C dX4_set_112 rfl ?_
        refine v_iload C dX4_set_113 rfl ?_
        refine v_iconst C dX4_set_115 (v := 1) (by decide) ?_
        obtain ⟨r17, e16, hsh⟩ := obp_e hsh
        refine v_callI (nP := 2) (k := 71) C (by decide) rfl rfl (c_X4_of l D t ad hI  e16) k580 k577 k579 kp20 k5 yo_X4_of ⟨Nat.le_of_ble_eq_true rfl, Nat.le_of_ble_eq_true rfl, rfl, rfl, Nat.zero_le _, Nat.zero_le _⟩ rfl rfl (Nat.le_of_ble_eq_true rfl) dX4_set_116 ?_
        refine v_goto C 128 dX4_set_119 (by decide) ?_
        exact v_wk (hj128 _ _ _ _ _ _ hsh) (wk_of (And.intro rfl (And.intro rfl (And.intro rfl trivial))))
set_option maxRecDepth 100000 in
set_option maxHeartbeats 4000000 in
theorem c_X4_set (l : Launch) (D : va_G) (t : gT) (ad : Nat → Nat) (hI : gI ad) {l1 : Int32} {l2 : Int32} {G : gG} {r0 : Int32} {G0 : gG} (hsh : sh_X4_set l1 l2 G = some (r0, G0)) : Mi l D t ad yX4_set cX4_set 6 (some .int) (rM 2 45) [.ref (ad 71), .int l1, .int l2] G r0 G0 := by
  refine m_go hI RX4 rfl (by decide +kernel) ⟨rfl, rfl⟩ (Nat.le_of_ble_eq_true rfl) rfl [some (.ref (ad 71)), some (.int l1), some (.int l2), none, none, none] rfl (fun p e s m args below meth c C => ?_)
  unfold sh_X4_set at hsh
  have hj44 : ∀ (l1 : Int32) (l2 : Int32) (x0 : Int32) (G : gG) , sh_X4_set_j44 l1 l2 x0 G = some (r0, G0) → V p l e (rM 2 45) s m args below meth c (isW ad) D t ad 0 0 6 (Qi below D t ad args s r0 G0) G 44 [some (.ref (ad 71)), some (.int l1), some (.int l2), none, none, none] [.int x0] := by
    intro l1 l2 x0 G hsh
    unfold sh_X4_set_j44 at hsh
    refine v_istoren C dX4_set_44 (by decide) ?_
    refine v_iloadn C dX4_set_45 rfl ?_
    refine v_if_ne C 52 dX4_set_46 (by decide) (fun hc => ?_) (fun hc => ?_)
    · replace hsh := ite_n hc hsh
      refine v_aloadn C dX4_set_52 rfl ?_
      refine f4_0 C dX4_set_53 ?_
      refine v_iconst C dX4_set_56 (v := 5) (by decide) ?_
      refine v_iloadn C dX4_set_57 rfl ?_
      refine v_iadd C dX4_set_58 ?_
      obtain ⟨h1, hsh⟩ := g_if hsh
      refine v_ld C (k := 72) (by decide) rfl (gin_in h1) dX4_set_59 ?_
      obtain ⟨z2, e3, hsh⟩ := bni_e hsh
      refine v_bi e3 ?_
      refine v_istore C dX4_set_60 (by decide) ?_
      refine v_iload C dX4_set_62 rfl ?_
      refine v_iloadn C dX4_set_64 rfl ?_
      refine v_ic_ne C 71 dX4_set_65 (by decide) (fun hc => ?_) (fun hc => ?_)
      · replace hsh := ite_n hc hsh
        refine v_aloadn C dX4_set_71 rfl ?_
        obtain ⟨G5, e4, hsh⟩ := obv_e hsh
        refine v_callV (nP := 0) (k := 71) C (by decide) rfl rfl (c_X4_record l D t ad hI  e4) k584 k581 k583 kp21 k5 yo_X4_record ⟨Nat.le_of_ble_eq_true rfl, Nat.le_of_ble_eq_true rfl, rfl, rfl, Nat.zero_le _, Nat.zero_le _⟩ rfl rfl (Nat.le_of_ble_eq_true rfl) dX4_set_72 ?_
        refine v_aloadn C dX4_set_75 rfl ?_
        refine f4_0 C dX4_set_76 ?_
        refine v_iconst C dX4_set_79 (v := 5) (by decide) ?_
        refine v_iloadn C dX4_set_80 rfl ?_
        refine v_iadd C dX4_set_81 ?_
        refine v_iloadn C dX4_set_82 rfl ?_
        refine v_st C (k := 72) (by decide) (fun _ => rfl) (gin_in h1) dX4_set_83 ?_
        obtain ⟨G6, e7, hsh⟩ := bng_e hsh
        refine v_bg e7 ?_
        refine v_iconst C dX4_set_84 (v := 0) (by decide) ?_
        refine v_istore C dX4_set_85 (by decide) ?_
        refine v_wk (lp_X4_set_87 C hI (fun l4 G hsh => ?_) FU _ _ _ hsh) (wk_of (And.intro rfl (And.intro rfl (And.intro rfl trivial))))
        refine v_iload C dX4_set_137 rfl ?_
        obtain ⟨rfl, rfl⟩ := so_i hsh
        exact v_iret C dX4_set_139
      · replace hsh := ite_p hc hsh
        refine v_bipush C dX4_set_68 (v := -5) (by decide) ?_
        obtain ⟨rfl, rfl⟩ := so_i hsh
        exact v_iret C dX4_set_70
    · replace hsh := ite_p hc hsh
      refine v_bipush C dX4_set_49 (v := -2) (by decide) ?_
      obtain ⟨rfl, rfl⟩ := so_i hsh
      exact v_iret C dX4_set_51
  have hj41 : ∀ (l1 : Int32) (l2 : Int32) (x0 : Int32) (x1 : Int32) (x2 : Int32) (G : gG) , sh_X4_set_j41 l1 l2 x0 x1 x2 G = some (r0, G0) → V p l e (rM 2 45) s m args below meth c (isW ad) D t ad 0 0 6 (Qi below D t ad args s r0 G0) G 41 [some (.ref (ad 71)), some (.int l1), some (.int l2), none, none, none] [.int x2, .int x1, .int x0] := by
    intro l1 l2 x0 x1 x2 G hsh
    unfold sh_X4_set_j41 at hsh
    refine v_callS (nP := 3) C (c_X4_in l D t ad hI  (G := G) rfl) k576 k574 k575 k5 yo_X4_in ⟨Nat.le_of_ble_eq_true rfl, Nat.le_of_ble_eq_true rfl, rfl, rfl, Nat.zero_le _, Nat.zero_le _⟩ rfl rfl (Nat.le_of_ble_eq_true rfl) dX4_set_41 ?_
    exact v_wk (hj44 _ _ _ _ hsh) (wk_of (And.intro rfl (And.intro rfl (And.intro rfl trivial))))
  refine v_iloadn C dX4_set_0 rfl ?_
  refine v_iconst C dX4_set_1 (v := 0) (by decide) ?_
  refine v_iconst C dX4_set_2 (v := 2) (by decide) ?_
  refine v_callS (nP := 3) C (c_X4_in l D t ad hI  (G := G) rfl) k576 k574 k575 k5 yo_X4_in ⟨Nat.le_of_ble_eq_true rfl, Nat.le_of_ble_eq_true rfl, rfl, rfl, Nat.zero_le _, Nat.zero_le _⟩ rfl rfl (Nat.le_of_ble_eq_true rfl) dX4_set_3 ?_
  refine v_if_ne C 11 dX4_set_6 (by decide) (fun hc => ?_) (fun hc => ?_)
  · replace hsh := ite_n hc hsh
    refine v_iloadn C dX4_set_11 rfl ?_
    refine v_if_ne C 27 dX4_set_12 (by decide) (fun hc => ?_) (fun hc => ?_)
    · replace hsh := ite_n hc hsh
      refine v_iloadn C dX4_set_27 rfl ?_
      refine v_iconst C dX4_set_28 (v := 0) (by decide) ?_
      refine v_iloadn C dX4_set_29 rfl ?_
      refine v_iconst C dX4_set_30 (v := 1) (by decide) ?_
      refine v_ic_ne C 39 dX4_set_31 (by decide) (fun hc => ?_) (fun hc => ?_)
      · replace hsh := ite_n hc hsh
        refine v_bipush C dX4_set_39 (v := 99) (by decide) ?_
        exact v_wk (hj41 _ _ _ _ _ _ hsh) (wk_of (And.intro rfl (And.intro rfl (And.intro rfl trivial))))
      · replace hsh := ite_p hc hsh
        refine v_bipush C dX4_set_34 (v := 100) (by decide) ?_
        refine v_goto C 41 dX4_set_36 (by decide) ?_
        exact v_wk (hj41 _ _ _ _ _ _ hsh) (wk_of (And.intro rfl (And.intro rfl (And.intro rfl trivial))))
    · replace hsh := ite_p hc hsh
      refine v_iloadn C dX4_set_15 rfl ?_
      refine v_bipush C dX4_set_16 (v := 10) (by decide) ?_
      refine v_sipush C dX4_set_18 (v := 200) (by decide) ?_
      refine v_callS (nP := 3) C (c_X4_in l D t ad hI  (G := G) rfl) k576 k574 k575 k5 yo_X4_in ⟨Nat.le_of_ble_eq_true rfl, Nat.le_of_ble_eq_true rfl, rfl, rfl, Nat.zero_le _, Nat.zero_le _⟩ rfl rfl (Nat.le_of_ble_eq_true rfl) dX4_set_21 ?_
      refine v_goto C 44 dX4_set_24 (by decide) ?_
      exact v_wk (hj44 _ _ _ _ hsh) (wk_of (And.intro rfl (And.intro rfl (And.intro rfl trivial))))
  · replace hsh := ite_p hc hsh
    refine v_iconst C dX4_set_9 (v := -1) (by decide) ?_
    obtain ⟨rfl, rfl⟩ := so_i hsh
    exact v_iret C dX4_set_10
theorem yo_X4_set : yOk yX4_set 2 := ⟨by decide, by decide, by decide +kernel⟩

def sh_X4_pass (l1 : Int32) (G : gG) : Option (Int32 × gG) := (if (sh_X4_in l1 (1 : Int32) (999 : Int32)) = (0 : Int32) then some ((-2 : Int32), G) else (if ((G 72 ((0 : Int32)).toNatClampNeg) + l1) ≤ (99999 : Int32) then (obv (sh_X4_record G) fun G2 => (obv (sh_X4_goOn l1 G2) fun G4 => some (((G4 72 ((1 : Int32)).toNatClampNeg) - (G2 72 ((1 : Int32)).toNatClampNeg)), G4))) else some ((-3 : Int32), G)))
set_option maxRecDepth 100000 in
set_option maxHeartbeats 4000000 in
theorem c_X4_pass (l : Launch) (D : va_G) (t : gT) (ad : Nat → Nat) (hI : gI ad) {l1 : Int32} {G : gG} {r0 : Int32} {G0 : gG} (hsh : sh_X4_pass l1 G = some (r0, G0)) : Mi l D t ad yX4_pass cX4_pass 3 (some .int) (rM 5 115) [.ref (ad 71), .int l1] G r0 G0 := by
  refine m_go hI RX4 rfl (by decide +kernel) ⟨rfl, rfl⟩ (Nat.le_of_ble_eq_true rfl) rfl [some (.ref (ad 71)), some (.int l1), none] rfl (fun p e s m args below meth c C => ?_)
  unfold sh_X4_pass at hsh
  refine v_iloadn C dX4_pass_0 rfl ?_
  refine v_iconst C dX4_pass_1 (v := 1) (by decide) ?_
  refine v_sipush C dX4_pass_2 (v := 999) (by decide) ?_
  refine v_callS (nP := 3) C (c_X4_in l D t ad hI  (G := G) rfl) k576 k574 k575 k5 yo_X4_in ⟨Nat.le_of_ble_eq_true rfl, Nat.le_of_ble_eq_true rfl, rfl, rfl, Nat.zero_le _, Nat.zero_le _⟩ rfl rfl (Nat.le_of_ble_eq_true rfl) dX4_pass_5 ?_
  refine v_if_ne C 14 dX4_pass_8 (by decide) (fun hc => ?_) (fun hc => ?_)
  · replace hsh := ite_n hc hsh
    refine v_aloadn C dX4_pass_14 rfl ?_
    refine f4_0 C dX4_pass_15 ?_
    refine v_iconst C dX4_pass_18 (v := 0) (by decide) ?_
    refine v_ld C (k := 72) (by decide) rfl (gin_in (by decide)) dX4_pass_19 ?_
    refine v_iloadn C dX4_pass_20 rfl ?_
    refine v_iadd C dX4_pass_21 ?_
    refine v_ldc C k654 dX4_pass_22 ?_
    refine v_ic_le C 30 dX4_pass_24 (by decide) (fun hc => ?_) (fun hc => ?_)
    · replace hsh := ite_p hc hsh
      refine v_aloadn C dX4_pass_30 rfl ?_
      obtain ⟨G2, e1, hsh⟩ := obv_e hsh
      refine v_callV (nP := 0) (k := 71) C (by decide) rfl rfl (c_X4_record l D t ad hI  e1) k584 k581 k583 kp21 k5 yo_X4_record ⟨Nat.le_of_ble_eq_true rfl, Nat.le_of_ble_eq_true rfl, rfl, rfl, Nat.zero_le _, Nat.zero_le _⟩ rfl rfl (Nat.le_of_ble_eq_true rfl) dX4_pass_31 ?_
      refine v_aloadn C dX4_pass_34 rfl ?_
      refine f4_0 C dX4_pass_35 ?_
      refine v_iconst C dX4_pass_38 (v := 1) (by decide) ?_
      refine v_ld C (k := 72) (by decide) rfl (gin_in (by decide)) dX4_pass_39 ?_
      refine v_istoren C dX4_pass_40 (by decide) ?_
      refine v_aloadn C dX4_pass_41 rfl ?_
      refine v_iloadn C dX4_pass_42 rfl ?_
      obtain ⟨G4, e3, hsh⟩ := obv_e hsh
      refine v_callV (nP := 1) (k := 71) C (by decide) rfl rfl (c_X4_goOn l D t ad hI  e3) k658 k655 k657 kp31 k5 yo_X4_goOn ⟨Nat.le_of_ble_eq_true rfl, Nat.le_of_ble_eq_true rfl, rfl, rfl, Nat.zero_le _, Nat.zero_le _⟩ rfl rfl (Nat.le_of_ble_eq_true rfl) dX4_pass_43 ?_
      refine v_aloadn C dX4_pass_46 rfl ?_
      refine f4_0 C dX4_pass_47 ?_
      refine v_iconst C dX4_pass_50 (v := 1) (by decide) ?_
      refine v_ld C (k := 72) (by decide) rfl (gin_in (by decide)) dX4_pass_51 ?_
      refine v_iloadn C dX4_pass_52 rfl ?_
      refine v_isub C dX4_pass_53 ?_
      obtain ⟨rfl, rfl⟩ := so_i hsh
      exact v_iret C dX4_pass_54
    · replace hsh := ite_n hc hsh
      refine v_bipush C dX4_pass_27 (v := -3) (by decide) ?_
      obtain ⟨rfl, rfl⟩ := so_i hsh
      exact v_iret C dX4_pass_29
  · replace hsh := ite_p hc hsh
    refine v_bipush C dX4_pass_11 (v := -2) (by decide) ?_
    obtain ⟨rfl, rfl⟩ := so_i hsh
    exact v_iret C dX4_pass_13
theorem yo_X4_pass : yOk yX4_pass 1 := ⟨by decide, by decide, by decide +kernel⟩

def sh_X4_type (l1 : Int32) (G : gG) : Option (Int32 × gG) := (if (G 71 7) = (60 : Int32) then some ((-3 : Int32), G) else (if gin (G 71 7) 60 = true then (bng (gu G 76 ((G 71 7)).toNatClampNeg (vp_nar .char l1)) fun G2 => (bng (gu G2 71 7 ((G2 71 7) + (1 : Int32))) fun G4 => some ((G4 71 7), G4))) else none))
set_option maxRecDepth 100000 in
set_option maxHeartbeats 4000000 in
theorem c_X4_type (l : Launch) (D : va_G) (t : gT) (ad : Nat → Nat) (hI : gI ad) {l1 : Int32} {G : gG} {r0 : Int32} {G0 : gG} (hsh : sh_X4_type l1 G = some (r0, G0)) : Mi l D t ad yX4_type cX4_type 2 (some .int) (rM 0 0) [.ref (ad 71), .int l1] G r0 G0 := by
  refine m_go hI RX4 rfl (by decide +kernel) ⟨rfl, rfl⟩ (Nat.le_of_ble_eq_true rfl) rfl [some (.ref (ad 71)), some (.int l1)] rfl (fun p e s m args below meth c C => ?_)
  unfold sh_X4_type at hsh
  refine v_aloadn C dX4_type_0 rfl ?_
  refine f4_7 C dX4_type_1 ?_
  refine v_bipush C dX4_type_4 (v := 60) (by decide) ?_
  refine v_ic_ne C 12 dX4_type_6 (by decide) (fun hc => ?_) (fun hc => ?_)
  · replace hsh := ite_n hc hsh
    refine v_aloadn C dX4_type_12 rfl ?_
    refine f4_6 C dX4_type_13 ?_
    refine v_aloadn C dX4_type_16 rfl ?_
    refine f4_7 C dX4_type_17 ?_
    refine v_iloadn C dX4_type_20 rfl ?_
    obtain ⟨h1, hsh⟩ := g_if hsh
    refine v_cst C (k := 76) (by decide) (fun _ => rfl) (gin_in h1) dX4_type_21 ?_
    obtain ⟨G2, e3, hsh⟩ := bng_e hsh
    refine v_bg e3 ?_
    refine v_aloadn C dX4_type_22 rfl ?_
    refine v_dup C dX4_type_23 rfl ?_
    refine f4_7 C dX4_type_24 ?_
    refine v_iconst C dX4_type_27 (v := 1) (by decide) ?_
    refine v_iadd C dX4_type_28 ?_
    refine p4_7 C dX4_type_29 ?_
    obtain ⟨G4, e5, hsh⟩ := bng_e hsh
    refine v_bg e5 ?_
    refine v_aloadn C dX4_type_32 rfl ?_
    refine f4_7 C dX4_type_33 ?_
    obtain ⟨rfl, rfl⟩ := so_i hsh
    exact v_iret C dX4_type_36
  · replace hsh := ite_p hc hsh
    refine v_bipush C dX4_type_9 (v := -3) (by decide) ?_
    obtain ⟨rfl, rfl⟩ := so_i hsh
    exact v_iret C dX4_type_11
theorem yo_X4_type : yOk yX4_type 1 := ⟨by decide, by decide, by decide +kernel⟩

def sh_X4_clearText (G : gG) : Option (Int32 × gG) := (bng (gu G 71 7 (0 : Int32)) fun G1 => some ((G 71 7), G1))
set_option maxRecDepth 100000 in
set_option maxHeartbeats 4000000 in
theorem c_X4_clearText (l : Launch) (D : va_G) (t : gT) (ad : Nat → Nat) (hI : gI ad) {G : gG} {r0 : Int32} {G0 : gG} (hsh : sh_X4_clearText G = some (r0, G0)) : Mi l D t ad yX4_clearText cX4_clearText 2 (some .int) (rM 0 0) [.ref (ad 71)] G r0 G0 := by
  refine m_go hI RX4 rfl (by decide +kernel) ⟨rfl, rfl⟩ (Nat.le_of_ble_eq_true rfl) rfl [some (.ref (ad 71)), none] rfl (fun p e s m args below meth c C => ?_)
  unfold sh_X4_clearText at hsh
  refine v_aloadn C dX4_clearText_0 rfl ?_
  refine f4_7 C dX4_clearText_1 ?_
  refine v_istoren C dX4_clearText_4 (by decide) ?_
  refine v_aloadn C dX4_clearText_5 rfl ?_
  refine v_iconst C dX4_clearText_6 (v := 0) (by decide) ?_
  refine p4_7 C dX4_clearText_7 ?_
  obtain ⟨G1, e2, hsh⟩ := bng_e hsh
  refine v_bg e2 ?_
  refine v_iloadn C dX4_clearText_10 rfl ?_
  obtain ⟨rfl, rfl⟩ := so_i hsh
  exact v_iret C dX4_clearText_11
theorem yo_X4_clearText : yOk yX4_clearText 0 := ⟨by decide, by decide, by decide +kernel⟩

def sh_X4_isNext (l1 : Int32) (l2 : Int32) (G : gG) : Option (Int32) := (if (G 71 7) ≤ (G 71 8) then some (0 : Int32) else (if gin (G 71 8) 60 = true then (if (sh_X4_in (G 76 ((G 71 8)).toNatClampNeg) l1 l2) = (0 : Int32) then some (0 : Int32) else some (1 : Int32)) else none))
set_option maxRecDepth 100000 in
set_option maxHeartbeats 4000000 in
theorem c_X4_isNext (l : Launch) (D : va_G) (t : gT) (ad : Nat → Nat) (hI : gI ad) {l1 : Int32} {l2 : Int32} {G : gG} {r0 : Int32} (hsh : sh_X4_isNext l1 l2 G = some r0) : Mi l D t ad yX4_isNext cX4_isNext 3 (some .boolean) (rM 1 22) [.ref (ad 71), .int l1, .int l2] G r0 G := by
  refine m_go hI RX4 rfl (by decide +kernel) ⟨rfl, rfl⟩ (Nat.le_of_ble_eq_true rfl) rfl [some (.ref (ad 71)), some (.int l1), some (.int l2)] rfl (fun p e s m args below meth c C => ?_)
  unfold sh_X4_isNext at hsh
  refine v_aloadn C dX4_isNext_0 rfl ?_
  refine f4_8 C dX4_isNext_1 ?_
  refine v_aloadn C dX4_isNext_4 rfl ?_
  refine f4_7 C dX4_isNext_5 ?_
  refine v_ic_ge C 32 dX4_isNext_8 (by decide) (fun hc => ?_) (fun hc => ?_)
  · replace hsh := ite_p hc hsh
    refine v_iconst C dX4_isNext_32 (v := 0) (by decide) ?_
    obtain rfl := so_1 hsh
    exact v_zret C (Or.inl rfl) dX4_isNext_33
  · replace hsh := ite_n hc hsh
    refine v_aloadn C dX4_isNext_11 rfl ?_
    refine f4_6 C dX4_isNext_12 ?_
    refine v_aloadn C dX4_isNext_15 rfl ?_
    refine f4_8 C dX4_isNext_16 ?_
    obtain ⟨h1, hsh⟩ := g_if hsh
    refine v_cld C (k := 76) (by decide) rfl (gin_in h1) dX4_isNext_19 ?_
    refine v_iloadn C dX4_isNext_20 rfl ?_
    refine v_iloadn C dX4_isNext_21 rfl ?_
    refine v_callS (nP := 3) C (c_X4_in l D t ad hI  (G := G) rfl) k576 k574 k575 k5 yo_X4_in ⟨Nat.le_of_ble_eq_true rfl, Nat.le_of_ble_eq_true rfl, rfl, rfl, Nat.zero_le _, Nat.zero_le _⟩ rfl rfl (Nat.le_of_ble_eq_true rfl) dX4_isNext_22 ?_
    refine v_if_eq C 32 dX4_isNext_25 (by decide) (fun hc => ?_) (fun hc => ?_)
    · replace hsh := ite_p hc hsh
      refine v_iconst C dX4_isNext_32 (v := 0) (by decide) ?_
      obtain rfl := so_1 hsh
      exact v_zret C (Or.inl rfl) dX4_isNext_33
    · replace hsh := ite_n hc hsh
      refine v_iconst C dX4_isNext_28 (v := 1) (by decide) ?_
      refine v_goto C 33 dX4_isNext_29 (by decide) ?_
      obtain rfl := so_1 hsh
      exact v_zret C (Or.inr rfl) dX4_isNext_33
theorem yo_X4_isNext : yOk yX4_isNext 2 := ⟨by decide, by decide, by decide +kernel⟩

def sh_X4_takes (l1 : Int32) (G : gG) : Option (Int32 × gG) := (obp (sh_X4_isNext l1 l1 G) fun r2 => (if r2 = (0 : Int32) then (bng (gu G 71 8 ((G 71 8) + (0 : Int32))) fun G3 => (if nbB r2 = true then some (r2, G3) else none)) else (bng (gu G 71 8 ((G 71 8) + (1 : Int32))) fun G5 => (if nbB r2 = true then some (r2, G5) else none))))
set_option maxRecDepth 100000 in
set_option maxHeartbeats 4000000 in
theorem c_X4_takes (l : Launch) (D : va_G) (t : gT) (ad : Nat → Nat) (hI : gI ad) {l1 : Int32} {G : gG} {r0 : Int32} {G0 : gG} (hsh : sh_X4_takes l1 G = some (r0, G0)) : Mi l D t ad yX4_takes cX4_takes 3 (some .boolean) (rM 2 44) [.ref (ad 71), .int l1] G r0 G0 := by
  refine m_go hI RX4 rfl (by decide +kernel) ⟨rfl, rfl⟩ (Nat.le_of_ble_eq_true rfl) rfl [some (.ref (ad 71)), some (.int l1), none] rfl (fun p e s m args below meth c C => ?_)
  unfold sh_X4_takes at hsh
  refine v_aloadn C dX4_takes_0 rfl ?_
  refine v_iloadn C dX4_takes_1 rfl ?_
  refine v_iloadn C dX4_takes_2 rfl ?_
  obtain ⟨r2, e1, hsh⟩ := obp_e hsh
  refine v_callI (nP := 2) (k := 71) C (by decide) rfl rfl (c_X4_isNext l D t ad hI  e1) k702 k699 k701 kp39 k5 yo_X4_isNext ⟨Nat.le_of_ble_eq_true rfl, Nat.le_of_ble_eq_true rfl, rfl, rfl, Nat.zero_le _, Nat.zero_le _⟩ rfl rfl (Nat.le_of_ble_eq_true rfl) dX4_takes_3 ?_
  refine v_istoren C dX4_takes_6 (by decide) ?_
  refine v_aloadn C dX4_takes_7 rfl ?_
  refine v_dup C dX4_takes_8 rfl ?_
  refine f4_8 C dX4_takes_9 ?_
  refine v_iloadn C dX4_takes_12 rfl ?_
  refine v_if_eq C 20 dX4_takes_13 (by decide) (fun hc => ?_) (fun hc => ?_)
  · replace hsh := ite_p hc hsh
    refine v_iconst C dX4_takes_20 (v := 0) (by decide) ?_
    refine v_iadd C dX4_takes_21 ?_
    refine p4_8 C dX4_takes_22 ?_
    obtain ⟨G3, e4, hsh⟩ := bng_e hsh
    refine v_bg e4 ?_
    refine v_iloadn C dX4_takes_25 rfl ?_
    obtain ⟨hnb, hsh⟩ := g_if hsh
    obtain ⟨rfl, rfl⟩ := so_i hsh
    exact v_zret C (nbB_n hnb) dX4_takes_26
  · replace hsh := ite_n hc hsh
    refine v_iconst C dX4_takes_16 (v := 1) (by decide) ?_
    refine v_goto C 21 dX4_takes_17 (by decide) ?_
    refine v_iadd C dX4_takes_21 ?_
    refine p4_8 C dX4_takes_22 ?_
    obtain ⟨G5, e6, hsh⟩ := bng_e hsh
    refine v_bg e6 ?_
    refine v_iloadn C dX4_takes_25 rfl ?_
    obtain ⟨hnb, hsh⟩ := g_if hsh
    obtain ⟨rfl, rfl⟩ := so_i hsh
    exact v_zret C (nbB_n hnb) dX4_takes_26
theorem yo_X4_takes : yOk yX4_takes 1 := ⟨by decide, by decide, by decide +kernel⟩

def sh_X4_begins_5  (kt38 : Int32 → Int32 → Int32 → Int32 → Option (Int32)) : Nat → Int32 → Int32 → Int32 → Int32 → Option (Int32)
  | 0, _, _, _, _ => none
  | n + 1, l1, l2, l3, l4 => (if l3 ≤ (0 : Int32) then kt38 l1 l2 l3 l4 else (if l2 < l3 then kt38 l1 l2 l3 l4 else (if l1 ≤ l4 then kt38 l1 l2 l3 l4 else sh_X4_begins_5 kt38 n l1 l2 ((10 : Int32) * l3) (((10 : Int32) * l4) + (9 : Int32)))))
def sh_X4_begins_j38 (l1 : Int32) (l2 : Int32) (l3 : Int32) (l4 : Int32) : Option (Int32) := (if l4 < l1 then some (0 : Int32) else (if l2 < l3 then some (0 : Int32) else some (1 : Int32)))
def sh_X4_begins (l0 : Int32) (l1 : Int32) (l2 : Int32) : Option (Int32) := (sh_X4_begins_5 (fun l1 l2 l3 l4 => (sh_X4_begins_j38 l1 l2 l3 l4)) FU l1 l2 l0 l0)
set_option maxRecDepth 100000 in
set_option maxHeartbeats 4000000 in
theorem lp_X4_begins_5 {p : Program} {l : Launch} {e : Env} {s : State} {m : MethodId} {args : Array Value} {below : List Frame} {meth : Method} {c : Code} {D : va_G} {t : gT} {ad : Nat → Nat} (C : gC p s m args meth c cX4_begins RX4 5 (some .boolean) (isW ad) D t ad) (hI : gI ad) {G : gG} {r0 : Int32} {kt38 : Int32 → Int32 → Int32 → Int32 → Option (Int32)} (hk38 : ∀ (l1 : Int32) (l2 : Int32) (l3 : Int32) (l4 : Int32) , kt38 l1 l2 l3 l4 = some r0 → V p l e (rM 0 0) s m args below meth c (isW ad) D t ad 0 0 5 (Qi below D t ad args s r0 G) G 38 [none, some (.int l1), some (.int l2), some (.int l3), some (.int l4)] []) : ∀ (n : Nat) (l1 : Int32) (l2 : Int32) (l3 : Int32) (l4 : Int32) , sh_X4_begins_5 kt38 n l1 l2 l3 l4 = some r0 → V p l e (rM 0 0) s m args below meth c (isW ad) D t ad 0 0 5 (Qi below D t ad args s r0 G) G 5 [none, some (.int l1), some (.int l2), some (.int l3), some (.int l4)] [] := by
  intro n
  induction n with
  | zero => intro l1 l2 l3 l4 hsh; rw [sh_X4_begins_5.eq_1] at hsh; cases hsh
  | succ n ih =>
    intro l1 l2 l3 l4 hsh
    rw [sh_X4_begins_5.eq_2] at hsh
    refine v_iloadn C dX4_begins_5 rfl ?_
    refine v_if_le C 38 dX4_begins_6 (by decide) (fun hc => ?_) (fun hc => ?_)
    · replace hsh := ite_p hc hsh
      exact v_wk (hk38 _ _ _ _ hsh) (wk_of (And.intro rfl (And.intro rfl (And.intro rfl (And.intro rfl trivial)))))
    · replace hsh := ite_n hc hsh
      refine v_iloadn C dX4_begins_9 rfl ?_
      refine v_iloadn C dX4_begins_10 rfl ?_
      refine v_ic_gt C 38 dX4_begins_11 (by decide) (fun hc => ?_) (fun hc => ?_)
      · replace hsh := ite_p hc hsh
        exact v_wk (hk38 _ _ _ _ hsh) (wk_of (And.intro rfl (And.intro rfl (And.intro rfl (And.intro rfl trivial)))))
      · replace hsh := ite_n hc hsh
        refine v_iload C dX4_begins_14 rfl ?_
        refine v_iloadn C dX4_begins_16 rfl ?_
        refine v_ic_ge C 38 dX4_begins_17 (by decide) (fun hc => ?_) (fun hc => ?_)
        · replace hsh := ite_p hc hsh
          exact v_wk (hk38 _ _ _ _ hsh) (wk_of (And.intro rfl (And.intro rfl (And.intro rfl (And.intro rfl trivial)))))
        · replace hsh := ite_n hc hsh
          refine v_bipush C dX4_begins_20 (v := 10) (by decide) ?_
          refine v_iloadn C dX4_begins_22 rfl ?_
          refine v_imul C dX4_begins_23 ?_
          refine v_istoren C dX4_begins_24 (by decide) ?_
          refine v_bipush C dX4_begins_25 (v := 10) (by decide) ?_
          refine v_iload C dX4_begins_27 rfl ?_
          refine v_imul C dX4_begins_29 ?_
          refine v_bipush C dX4_begins_30 (v := 9) (by decide) ?_
          refine v_iadd C dX4_begins_32 ?_
          refine v_istore C dX4_begins_33 (by decide) ?_
          refine v_goto C 5 dX4_begins_35 (by decide) ?_
          exact v_wk (ih _ _ _ _ hsh) (wk_of (And.intro rfl (And.intro rfl (And.intro rfl (And.intro rfl trivial)))))
set_option maxRecDepth 100000 in
set_option maxHeartbeats 4000000 in
theorem c_X4_begins (l : Launch) (D : va_G) (t : gT) (ad : Nat → Nat) (hI : gI ad) {l0 : Int32} {l1 : Int32} {l2 : Int32} {G : gG} {r0 : Int32} (hsh : sh_X4_begins l0 l1 l2 = some r0) : Mi l D t ad yX4_begins cX4_begins 5 (some .boolean) (rM 0 0) [.int l0, .int l1, .int l2] G r0 G := by
  refine m_go hI RX4 rfl (by decide +kernel) ⟨rfl, rfl⟩ (Nat.le_of_ble_eq_true rfl) rfl [some (.int l0), some (.int l1), some (.int l2), none, none] rfl (fun p e s m args below meth c C => ?_)
  unfold sh_X4_begins at hsh
  have hj38 : ∀ (l1 : Int32) (l2 : Int32) (l3 : Int32) (l4 : Int32) , sh_X4_begins_j38 l1 l2 l3 l4 = some r0 → V p l e (rM 0 0) s m args below meth c (isW ad) D t ad 0 0 5 (Qi below D t ad args s r0 G) G 38 [none, some (.int l1), some (.int l2), some (.int l3), some (.int l4)] [] := by
    intro l1 l2 l3 l4 hsh
    unfold sh_X4_begins_j38 at hsh
    refine v_iload C dX4_begins_38 rfl ?_
    refine v_iloadn C dX4_begins_40 rfl ?_
    refine v_ic_lt C 53 dX4_begins_41 (by decide) (fun hc => ?_) (fun hc => ?_)
    · replace hsh := ite_p hc hsh
      refine v_iconst C dX4_begins_53 (v := 0) (by decide) ?_
      obtain rfl := so_1 hsh
      exact v_zret C (Or.inl rfl) dX4_begins_54
    · replace hsh := ite_n hc hsh
      refine v_iloadn C dX4_begins_44 rfl ?_
      refine v_iloadn C dX4_begins_45 rfl ?_
      refine v_ic_gt C 53 dX4_begins_46 (by decide) (fun hc => ?_) (fun hc => ?_)
      · replace hsh := ite_p hc hsh
        refine v_iconst C dX4_begins_53 (v := 0) (by decide) ?_
        obtain rfl := so_1 hsh
        exact v_zret C (Or.inl rfl) dX4_begins_54
      · replace hsh := ite_n hc hsh
        refine v_iconst C dX4_begins_49 (v := 1) (by decide) ?_
        refine v_goto C 54 dX4_begins_50 (by decide) ?_
        obtain rfl := so_1 hsh
        exact v_zret C (Or.inr rfl) dX4_begins_54
  refine v_iloadn C dX4_begins_0 rfl ?_
  refine v_istoren C dX4_begins_1 (by decide) ?_
  refine v_iloadn C dX4_begins_2 rfl ?_
  refine v_istore C dX4_begins_3 (by decide) ?_
  refine v_wk (lp_X4_begins_5 C hI (fun l1 l2 l3 l4 hsh => ?_) FU _ _ _ _ hsh) (wk_of (And.intro rfl (And.intro rfl (And.intro rfl (And.intro rfl trivial)))))
  exact v_wk (hj38 _ _ _ _ hsh) (wk_of (And.intro rfl (And.intro rfl (And.intro rfl (And.intro rfl trivial)))))
theorem yo_X4_begins : yOk yX4_begins 3 := ⟨by decide, by decide, by decide +kernel⟩

def sh_X4_readNumber_j56 (kt100 : Int32 → Int32 → Int32 → gG → Option (Int32 × gG)) (self3 : Int32 → Int32 → Int32 → gG → Option (Int32 × gG)) (l1 : Int32) (l2 : Int32) (l3 : Int32) (x0 : Int32) (G : gG) : Option (Int32 × gG) := (obp (sh_X4_begins x0 l1 l2) fun r5 => (if r5 = (0 : Int32) then (if (sh_X4_in l3 l1 l2) = (0 : Int32) then some ((-5 : Int32), G) else some (l3, G)) else (bng (gu G 71 8 ((G 71 8) + (1 : Int32))) fun G6 => self3 l1 l2 x0 G6)))
def sh_X4_readNumber_3  (kt100 : Int32 → Int32 → Int32 → gG → Option (Int32 × gG)) : Nat → Int32 → Int32 → Int32 → gG → Option (Int32 × gG)
  | 0, _, _, _, _ => none
  | n + 1, l1, l2, l3, G => (obp (sh_X4_isNext (48 : Int32) (57 : Int32) G) fun r2 => (if r2 = (0 : Int32) then kt100 l1 l2 l3 G else (if l3 = (0 : Int32) then kt100 l1 l2 l3 G else (if l3 = (-5 : Int32) then (if gin (G 71 8) 60 = true then (sh_X4_readNumber_j56 kt100 (sh_X4_readNumber_3 kt100 n) l1 l2 l3 ((G 76 ((G 71 8)).toNatClampNeg) - (48 : Int32)) G) else none) else (if gin (G 71 8) 60 = true then (sh_X4_readNumber_j56 kt100 (sh_X4_readNumber_3 kt100 n) l1 l2 l3 ((((10 : Int32) * l3) + (G 76 ((G 71 8)).toNatClampNeg)) - (48 : Int32)) G) else none)))))
def sh_X4_readNumber_j100 (l1 : Int32) (l2 : Int32) (l3 : Int32) (G : gG) : Option (Int32 × gG) := (if (sh_X4_in l3 l1 l2) = (0 : Int32) then some ((-5 : Int32), G) else some (l3, G))
def sh_X4_readNumber (l1 : Int32) (l2 : Int32) (G : gG) : Option (Int32 × gG) := (sh_X4_readNumber_3 (fun l1 l2 l3 G => (sh_X4_readNumber_j100 l1 l2 l3 G)) FU l1 l2 (-5 : Int32) G)
set_option maxRecDepth 100000 in
set_option maxHeartbeats 4000000 in
theorem lp_X4_readNumber_3 {p : Program} {l : Launch} {e : Env} {s : State} {m : MethodId} {args : Array Value} {below : List Frame} {meth : Method} {c : Code} {D : va_G} {t : gT} {ad : Nat → Nat} (C : gC p s m args meth c cX4_readNumber RX4 5 (some .int) (isW ad) D t ad) (hI : gI ad) {r0 : Int32} {G0 : gG} {kt100 : Int32 → Int32 → Int32 → gG → Option (Int32 × gG)} (hk100 : ∀ (l1 : Int32) (l2 : Int32) (l3 : Int32) (G : gG) , kt100 l1 l2 l3 G = some (r0, G0) → V p l e (rM 2 44) s m args below meth c (isW ad) D t ad 0 0 5 (Qi below D t ad args s r0 G0) G 100 [none, some (.int l1), some (.int l2), some (.int l3), none] []) : ∀ (n : Nat) (l1 : Int32) (l2 : Int32) (l3 : Int32) (G : gG) , sh_X4_readNumber_3 kt100 n l1 l2 l3 G = some (r0, G0) → V p l e (rM 2 44) s m args below meth c (isW ad) D t ad 0 0 5 (Qi below D t ad args s r0 G0) G 3 [some (.ref (ad 71)), some (.int l1), some (.int l2), some (.int l3), none] [] := by
  intro n
  induction n with
  | zero => intro l1 l2 l3 G hsh; rw [sh_X4_readNumber_3.eq_1] at hsh; cases hsh
  | succ n ih =>
    intro l1 l2 l3 G hsh
    rw [sh_X4_readNumber_3.eq_2] at hsh
    have hj56 : ∀ (l1 : Int32) (l2 : Int32) (l3 : Int32) (x0 : Int32) (G : gG) , sh_X4_readNumber_j56 kt100 (sh_X4_readNumber_3 kt100 n) l1 l2 l3 x0 G = some (r0, G0) → V p l e (rM 2 44) s m args below meth c (isW ad) D t ad 0 0 5 (Qi below D t ad args s r0 G0) G 56 [some (.ref (ad 71)), some (.int l1), some (.int l2), some (.int l3), none] [.int x0] := by
      intro l1 l2 l3 x0 G hsh
      unfold sh_X4_readNumber_j56 at hsh
      refine v_istore C dX4_readNumber_56 (by decide) ?_
      refine v_iload C dX4_readNumber_58 rfl ?_
      refine v_iloadn C dX4_readNumber_60 rfl ?_
      refine v_iloadn C dX4_readNumber_61 rfl ?_
      obtain ⟨r5, e4, hsh⟩ := obp_e hsh
      refine v_callS (nP := 3) C (c_X4_begins l D t ad hI  (G := G) e4) k705 k703 k704 k5 yo_X4_begins ⟨Nat.le_of_ble_eq_true rfl, Nat.le_of_ble_eq_true rfl, rfl, rfl, Nat.zero_le _, Nat.zero_le _⟩ rfl rfl (Nat.le_of_ble_eq_true rfl) dX4_readNumber_62 ?_
      refine v_if_ne C 84 dX4_readNumber_65 (by decide) (fun hc => ?_) (fun hc => ?_)
      · replace hsh := ite_n hc hsh
        refine v_iload C dX4_readNumber_84 rfl ?_
        refine v_istoren C dX4_readNumber_86 (by decide) ?_
        refine v_aloadn C dX4_readNumber_87 rfl ?_
        refine v_dup C dX4_readNumber_88 rfl ?_
        refine f4_8 C dX4_readNumber_89 ?_
        refine v_iconst C dX4_readNumber_92 (v := 1) (by decide) ?_
        refine v_iadd C dX4_readNumber_93 ?_
        refine p4_8 C dX4_readNumber_94 ?_
        obtain ⟨G6, e7, hsh⟩ := bng_e hsh
        refine v_bg e7 ?_
        refine v_goto C 3 dX4_readNumber_97 (by decide) ?_
        exact v_wk (ih _ _ _ _ hsh) (wk_of (And.intro rfl (And.intro rfl (And.intro rfl (And.intro rfl trivial)))))
      · replace hsh := ite_p hc hsh
        refine v_iloadn C dX4_readNumber_68 rfl ?_
        refine v_iloadn C dX4_readNumber_69 rfl ?_
        refine v_iloadn C dX4_readNumber_70 rfl ?_
        refine v_callS (nP := 3) C (c_X4_in l D t ad hI  (G := G) rfl) k576 k574 k575 k5 yo_X4_in ⟨Nat.le_of_ble_eq_true rfl, Nat.le_of_ble_eq_true rfl, rfl, rfl, Nat.zero_le _, Nat.zero_le _⟩ rfl rfl (Nat.le_of_ble_eq_true rfl) dX4_readNumber_71 ?_
        refine v_if_eq C 81 dX4_readNumber_74 (by decide) (fun hc => ?_) (fun hc => ?_)
        · replace hsh := ite_p hc hsh
          refine v_bipush C dX4_readNumber_81 (v := -5) (by decide) ?_
          obtain ⟨rfl, rfl⟩ := so_i hsh
          exact v_iret C dX4_readNumber_83
        · replace hsh := ite_n hc hsh
          refine v_iloadn C dX4_readNumber_77 rfl ?_
          refine v_goto C 83 dX4_readNumber_78 (by decide) ?_
          obtain ⟨rfl, rfl⟩ := so_i hsh
          exact v_iret C dX4_readNumber_83
    refine v_aloadn C dX4_readNumber_3 rfl ?_
    refine v_bipush C dX4_readNumber_4 (v := 48) (by decide) ?_
    refine v_bipush C dX4_readNumber_6 (v := 57) (by decide) ?_
    obtain ⟨r2, e1, hsh⟩ := obp_e hsh
    refine v_callI (nP := 2) (k := 71) C (by decide) rfl rfl (c_X4_isNext l D t ad hI  e1) k702 k699 k701 kp39 k5 yo_X4_isNext ⟨Nat.le_of_ble_eq_true rfl, Nat.le_of_ble_eq_true rfl, rfl, rfl, Nat.zero_le _, Nat.zero_le _⟩ rfl rfl (Nat.le_of_ble_eq_true rfl) dX4_readNumber_8 ?_
    refine v_if_eq C 100 dX4_readNumber_11 (by decide) (fun hc => ?_) (fun hc => ?_)
    · replace hsh := ite_p hc hsh
      exact v_wk (hk100 _ _ _ _ hsh) (wk_of (And.intro rfl (And.intro rfl (And.intro rfl trivial))))
    · replace hsh := ite_n hc hsh
      refine v_iloadn C dX4_readNumber_14 rfl ?_
      refine v_if_eq C 100 dX4_readNumber_15 (by decide) (fun hc => ?_) (fun hc => ?_)
      · replace hsh := ite_p hc hsh
        exact v_wk (hk100 _ _ _ _ hsh) (wk_of (And.intro rfl (And.intro rfl (And.intro rfl trivial))))
      · replace hsh := ite_n hc hsh
        refine v_iloadn C dX4_readNumber_18 rfl ?_
        refine v_bipush C dX4_readNumber_19 (v := -5) (by decide) ?_
        refine v_ic_ne C 39 dX4_readNumber_21 (by decide) (fun hc => ?_) (fun hc => ?_)
        · replace hsh := ite_n hc hsh
          refine v_bipush C dX4_readNumber_39 (v := 10) (by decide) ?_
          refine v_iloadn C dX4_readNumber_41 rfl ?_
          refine v_imul C dX4_readNumber_42 ?_
          refine v_aloadn C dX4_readNumber_43 rfl ?_
          refine f4_6 C dX4_readNumber_44 ?_
          refine v_aloadn C dX4_readNumber_47 rfl ?_
          refine f4_8 C dX4_readNumber_48 ?_
          obtain ⟨h3, hsh⟩ := g_if hsh
          refine v_cld C (k := 76) (by decide) rfl (gin_in h3) dX4_readNumber_51 ?_
          refine v_iadd C dX4_readNumber_52 ?_
          refine v_bipush C dX4_readNumber_53 (v := 48) (by decide) ?_
          refine v_isub C dX4_readNumber_55 ?_
          exact v_wk (hj56 _ _ _ _ _ hsh) (wk_of (And.intro rfl (And.intro rfl (And.intro rfl (And.intro rfl trivial)))))
        · replace hsh := ite_p hc hsh
          refine v_aloadn C dX4_readNumber_24 rfl ?_
          refine f4_6 C dX4_readNumber_25 ?_
          refine v_aloadn C dX4_readNumber_28 rfl ?_
          refine f4_8 C dX4_readNumber_29 ?_
          obtain ⟨h8, hsh⟩ := g_if hsh
          refine v_cld C (k := 76) (by decide) rfl (gin_in h8) dX4_readNumber_32 ?_
          refine v_bipush C dX4_readNumber_33 (v := 48) (by decide) ?_
          refine v_isub C dX4_readNumber_35 ?_
          refine v_goto C 56 dX4_readNumber_36 (by decide) ?_
          exact v_wk (hj56 _ _ _ _ _ hsh) (wk_of (And.intro rfl (And.intro rfl (And.intro rfl (And.intro rfl trivial)))))
set_option maxRecDepth 100000 in
set_option maxHeartbeats 4000000 in
theorem c_X4_readNumber (l : Launch) (D : va_G) (t : gT) (ad : Nat → Nat) (hI : gI ad) {l1 : Int32} {l2 : Int32} {G : gG} {r0 : Int32} {G0 : gG} (hsh : sh_X4_readNumber l1 l2 G = some (r0, G0)) : Mi l D t ad yX4_readNumber cX4_readNumber 5 (some .int) (rM 2 44) [.ref (ad 71), .int l1, .int l2] G r0 G0 := by
  refine m_go hI RX4 rfl (by decide +kernel) ⟨rfl, rfl⟩ (Nat.le_of_ble_eq_true rfl) rfl [some (.ref (ad 71)), some (.int l1), some (.int l2), none, none] rfl (fun p e s m args below meth c C => ?_)
  unfold sh_X4_readNumber at hsh
  have hj100 : ∀ (l1 : Int32) (l2 : Int32) (l3 : Int32) (G : gG) , sh_X4_readNumber_j100 l1 l2 l3 G = some (r0, G0) → V p l e (rM 2 44) s m args below meth c (isW ad) D t ad 0 0 5 (Qi below D t ad args s r0 G0) G 100 [none, some (.int l1), some (.int l2), some (.int l3), none] [] := by
    intro l1 l2 l3 G hsh
    unfold sh_X4_readNumber_j100 at hsh
    refine v_iloadn C dX4_readNumber_100 rfl ?_
    refine v_iloadn C dX4_readNumber_101 rfl ?_
    refine v_iloadn C dX4_readNumber_102 rfl ?_
    refine v_callS (nP := 3) C (c_X4_in l D t ad hI  (G := G) rfl) k576 k574 k575 k5 yo_X4_in ⟨Nat.le_of_ble_eq_true rfl, Nat.le_of_ble_eq_true rfl, rfl, rfl, Nat.zero_le _, Nat.zero_le _⟩ rfl rfl (Nat.le_of_ble_eq_true rfl) dX4_readNumber_103 ?_
    refine v_if_eq C 113 dX4_readNumber_106 (by decide) (fun hc => ?_) (fun hc => ?_)
    · replace hsh := ite_p hc hsh
      refine v_bipush C dX4_readNumber_113 (v := -5) (by decide) ?_
      obtain ⟨rfl, rfl⟩ := so_i hsh
      exact v_iret C dX4_readNumber_115
    · replace hsh := ite_n hc hsh
      refine v_iloadn C dX4_readNumber_109 rfl ?_
      refine v_goto C 115 dX4_readNumber_110 (by decide) ?_
      obtain ⟨rfl, rfl⟩ := so_i hsh
      exact v_iret C dX4_readNumber_115
  refine v_bipush C dX4_readNumber_0 (v := -5) (by decide) ?_
  refine v_istoren C dX4_readNumber_2 (by decide) ?_
  refine v_wk (lp_X4_readNumber_3 C hI (fun l1 l2 l3 G hsh => ?_) FU _ _ _ _ hsh) (wk_of (And.intro rfl (And.intro rfl (And.intro rfl (And.intro rfl trivial)))))
  exact v_wk (hj100 _ _ _ _ hsh) (wk_of (And.intro rfl (And.intro rfl (And.intro rfl trivial))))
theorem yo_X4_readNumber : yOk yX4_readNumber 2 := ⟨by decide, by decide, by decide +kernel⟩

def sh_X4_readLamp_j58 (x1 : Int32) (x2 : Int32) (G : gG) : Option (Int32 × gG) := (if gin x1 16 = true then (bng (gu G 78 (x1).toNatClampNeg x2) fun G11 => (if gin (G11 71 9) 16 = true then (bng (gu G11 79 ((G11 71 9)).toNatClampNeg (0 : Int32)) fun G14 => (if gin (G14 71 9) 16 = true then (if (G14 78 ((G14 71 9)).toNatClampNeg) = (-5 : Int32) then (bng (gu G14 71 9 ((G14 71 9) + (1 : Int32))) fun G17 => some ((0 : Int32), G17)) else (bng (gu G14 71 9 ((G14 71 9) + (1 : Int32))) fun G19 => some ((1 : Int32), G19))) else none)) else none)) else none)
def sh_X4_readLamp (G : gG) : Option (Int32 × gG) := (obi (sh_X4_readNumber (0 : Int32) (199 : Int32) G) fun r2 G3 => (if r2 = (-5 : Int32) then some ((0 : Int32), G3) else (if gin (G3 71 9) 16 = true then (bng (gu G3 77 ((G3 71 9)).toNatClampNeg r2) fun G5 => (obi (sh_X4_takes (42 : Int32) G5) fun r8 G9 => (if r8 = (0 : Int32) then (sh_X4_readLamp_j58 (G5 71 9) (100 : Int32) G9) else (obi (sh_X4_readNumber (50 : Int32) (150 : Int32) G9) fun r22 G23 => (sh_X4_readLamp_j58 (G5 71 9) r22 G23))))) else none)))
set_option maxRecDepth 100000 in
set_option maxHeartbeats 4000000 in
theorem c_X4_readLamp (l : Launch) (D : va_G) (t : gT) (ad : Nat → Nat) (hI : gI ad) {G : gG} {r0 : Int32} {G0 : gG} (hsh : sh_X4_readLamp G = some (r0, G0)) : Mi l D t ad yX4_readLamp cX4_readLamp 3 (some .boolean) (rM 3 68) [.ref (ad 71)] G r0 G0 := by
  refine m_go hI RX4 rfl (by decide +kernel) ⟨rfl, rfl⟩ (Nat.le_of_ble_eq_true rfl) rfl [some (.ref (ad 71)), none, none] rfl (fun p e s m args below meth c C => ?_)
  unfold sh_X4_readLamp at hsh
  have hj58 : ∀ (x1 : Int32) (x2 : Int32) (G : gG) , sh_X4_readLamp_j58 x1 x2 G = some (r0, G0) → V p l e (rM 3 68) s m args below meth c (isW ad) D t ad 0 0 3 (Qi below D t ad args s r0 G0) G 58 [some (.ref (ad 71)), none, none] [.int x2, .int x1, .ref (ad 78)] := by
    intro x1 x2 G hsh
    unfold sh_X4_readLamp_j58 at hsh
    obtain ⟨h10, hsh⟩ := g_if hsh
    refine v_st C (k := 78) (by decide) (fun _ => rfl) (gin_in h10) dX4_readLamp_58 ?_
    obtain ⟨G11, e12, hsh⟩ := bng_e hsh
    refine v_bg e12 ?_
    refine v_aloadn C dX4_readLamp_59 rfl ?_
    refine f4_12 C dX4_readLamp_60 ?_
    refine v_aloadn C dX4_readLamp_63 rfl ?_
    refine f4_9 C dX4_readLamp_64 ?_
    refine v_iconst C dX4_readLamp_67 (v := 0) (by decide) ?_
    obtain ⟨h13, hsh⟩ := g_if hsh
    refine v_st C (k := 79) (by decide) (fun _ => rfl) (gin_in h13) dX4_readLamp_68 ?_
    obtain ⟨G14, e15, hsh⟩ := bng_e hsh
    refine v_bg e15 ?_
    refine v_aloadn C dX4_readLamp_69 rfl ?_
    refine f4_11 C dX4_readLamp_70 ?_
    refine v_aloadn C dX4_readLamp_73 rfl ?_
    refine f4_9 C dX4_readLamp_74 ?_
    obtain ⟨h16, hsh⟩ := g_if hsh
    refine v_ld C (k := 78) (by decide) rfl (gin_in h16) dX4_readLamp_77 ?_
    refine v_bipush C dX4_readLamp_78 (v := -5) (by decide) ?_
    refine v_ic_eq C 87 dX4_readLamp_80 (by decide) (fun hc => ?_) (fun hc => ?_)
    · replace hsh := ite_p hc hsh
      refine v_iconst C dX4_readLamp_87 (v := 0) (by decide) ?_
      refine v_istoren C dX4_readLamp_88 (by decide) ?_
      refine v_aloadn C dX4_readLamp_89 rfl ?_
      refine v_dup C dX4_readLamp_90 rfl ?_
      refine f4_9 C dX4_readLamp_91 ?_
      refine v_iconst C dX4_readLamp_94 (v := 1) (by decide) ?_
      refine v_iadd C dX4_readLamp_95 ?_
      refine p4_9 C dX4_readLamp_96 ?_
      obtain ⟨G17, e18, hsh⟩ := bng_e hsh
      refine v_bg e18 ?_
      refine v_iloadn C dX4_readLamp_99 rfl ?_
      obtain ⟨rfl, rfl⟩ := so_i hsh
      exact v_zret C (Or.inl rfl) dX4_readLamp_100
    · replace hsh := ite_n hc hsh
      refine v_iconst C dX4_readLamp_83 (v := 1) (by decide) ?_
      refine v_goto C 88 dX4_readLamp_84 (by decide) ?_
      refine v_istoren C dX4_readLamp_88 (by decide) ?_
      refine v_aloadn C dX4_readLamp_89 rfl ?_
      refine v_dup C dX4_readLamp_90 rfl ?_
      refine f4_9 C dX4_readLamp_91 ?_
      refine v_iconst C dX4_readLamp_94 (v := 1) (by decide) ?_
      refine v_iadd C dX4_readLamp_95 ?_
      refine p4_9 C dX4_readLamp_96 ?_
      obtain ⟨G19, e20, hsh⟩ := bng_e hsh
      refine v_bg e20 ?_
      refine v_iloadn C dX4_readLamp_99 rfl ?_
      obtain ⟨rfl, rfl⟩ := so_i hsh
      exact v_zret C (Or.inr rfl) dX4_readLamp_100
  refine v_aloadn C dX4_readLamp_0 rfl ?_
  refine v_iconst C dX4_readLamp_1 (v := 0) (by decide) ?_
  refine v_sipush C dX4_readLamp_2 (v := 199) (by decide) ?_
  obtain ⟨r2, G3, e1, hsh⟩ := obi_e hsh
  refine v_callI (nP := 2) (k := 71) C (by decide) rfl rfl (c_X4_readNumber l D t ad hI  e1) k698 k695 k697 kp38 k5 yo_X4_readNumber ⟨Nat.le_of_ble_eq_true rfl, Nat.le_of_ble_eq_true rfl, rfl, rfl, Nat.zero_le _, Nat.zero_le _⟩ rfl rfl (Nat.le_of_ble_eq_true rfl) dX4_readLamp_5 ?_
  refine v_istoren C dX4_readLamp_8 (by decide) ?_
  refine v_iloadn C dX4_readLamp_9 rfl ?_
  refine v_bipush C dX4_readLamp_10 (v := -5) (by decide) ?_
  refine v_ic_ne C 17 dX4_readLamp_12 (by decide) (fun hc => ?_) (fun hc => ?_)
  · replace hsh := ite_n hc hsh
    refine v_aloadn C dX4_readLamp_17 rfl ?_
    refine f4_10 C dX4_readLamp_18 ?_
    refine v_aloadn C dX4_readLamp_21 rfl ?_
    refine f4_9 C dX4_readLamp_22 ?_
    refine v_iloadn C dX4_readLamp_25 rfl ?_
    obtain ⟨h4, hsh⟩ := g_if hsh
    refine v_st C (k := 77) (by decide) (fun _ => rfl) (gin_in h4) dX4_readLamp_26 ?_
    obtain ⟨G5, e6, hsh⟩ := bng_e hsh
    refine v_bg e6 ?_
    refine v_aloadn C dX4_readLamp_27 rfl ?_
    refine f4_11 C dX4_readLamp_28 ?_
    refine v_aloadn C dX4_readLamp_31 rfl ?_
    refine f4_9 C dX4_readLamp_32 ?_
    refine v_aloadn C dX4_readLamp_35 rfl ?_
    refine v_bipush C dX4_readLamp_36 (v := 42) (by decide) ?_
    obtain ⟨r8, G9, e7, hsh⟩ := obi_e hsh
    refine v_callI (nP := 1) (k := 71) C (by decide) rfl rfl (c_X4_takes l D t ad hI  e7) k709 k706 k708 kp40 k5 yo_X4_takes ⟨Nat.le_of_ble_eq_true rfl, Nat.le_of_ble_eq_true rfl, rfl, rfl, Nat.zero_le _, Nat.zero_le _⟩ rfl rfl (Nat.le_of_ble_eq_true rfl) dX4_readLamp_38 ?_
    refine v_if_eq C 56 dX4_readLamp_41 (by decide) (fun hc => ?_) (fun hc => ?_)
    · replace hsh := ite_p hc hsh
      refine v_bipush C dX4_readLamp_56 (v := 100) (by decide) ?_
      exact v_wk (hj58 _ _ _ hsh) (wk_of (And.intro rfl trivial))
    · replace hsh := ite_n hc hsh
      refine v_aloadn C dX4_readLamp_44 rfl ?_
      refine v_bipush C dX4_readLamp_45 (v := 50) (by decide) ?_
      refine v_sipush C dX4_readLamp_47 (v := 150) (by decide) ?_
      obtain ⟨r22, G23, e21, hsh⟩ := obi_e hsh
      refine v_callI (nP := 2) (k := 71) C (by decide) rfl rfl (c_X4_readNumber l D t ad hI  e21) k698 k695 k697 kp38 k5 yo_X4_readNumber ⟨Nat.le_of_ble_eq_true rfl, Nat.le_of_ble_eq_true rfl, rfl, rfl, Nat.zero_le _, Nat.zero_le _⟩ rfl rfl (Nat.le_of_ble_eq_true rfl) dX4_readLamp_50 ?_
      refine v_goto C 58 dX4_readLamp_53 (by decide) ?_
      exact v_wk (hj58 _ _ _ hsh) (wk_of (And.intro rfl trivial))
  · replace hsh := ite_p hc hsh
    refine v_iconst C dX4_readLamp_15 (v := 0) (by decide) ?_
    obtain ⟨rfl, rfl⟩ := so_i hsh
    exact v_zret C (Or.inl rfl) dX4_readLamp_16
theorem yo_X4_readLamp : yOk yX4_readLamp 0 := ⟨by decide, by decide, by decide +kernel⟩

def sh_X4_readLink (G : gG) : Option (Int32 × gG) := (obp (sh_X4_isNext (97 : Int32) (((97 : Int32) + (G 71 9)) - (1 : Int32)) G) fun r2 => (if r2 = (0 : Int32) then some ((0 : Int32), G) else (if gin (G 71 8) 60 = true then (bni ((G 76 ((G 71 8)).toNatClampNeg) - (97 : Int32)) fun z4 => (bng (gu G 71 8 ((G 71 8) + (1 : Int32))) fun G6 => (obp (sh_X4_isNext (97 : Int32) (((97 : Int32) + (G6 71 9)) - (1 : Int32)) G6) fun r9 => (if r9 = (0 : Int32) then some ((0 : Int32), G6) else (if gin (G6 71 8) 60 = true then (if ((G6 76 ((G6 71 8)).toNatClampNeg) - (97 : Int32)) = z4 then some ((0 : Int32), G6) else (bni ((G6 76 ((G6 71 8)).toNatClampNeg) - (97 : Int32)) fun z11 => (bng (gu G6 71 8 ((G6 71 8) + (1 : Int32))) fun G13 => (if gin z4 16 = true then (bng (gu G13 79 (z4).toNatClampNeg ((G13 79 (z4).toNatClampNeg) ||| ((1 : Int32) <<< (z11 &&& 31)))) fun G16 => (if gin z11 16 = true then (bng (gu G16 79 (z11).toNatClampNeg ((G16 79 (z11).toNatClampNeg) ||| ((1 : Int32) <<< (z4 &&& 31)))) fun G19 => some ((1 : Int32), G19)) else none)) else none)))) else none))))) else none)))
set_option maxRecDepth 100000 in
set_option maxHeartbeats 4000000 in
theorem c_X4_readLink (l : Launch) (D : va_G) (t : gT) (ad : Nat → Nat) (hI : gI ad) {G : gG} {r0 : Int32} {G0 : gG} (hsh : sh_X4_readLink G = some (r0, G0)) : Mi l D t ad yX4_readLink cX4_readLink 3 (some .boolean) (rM 2 44) [.ref (ad 71)] G r0 G0 := by
  refine m_go hI RX4 rfl (by decide +kernel) ⟨rfl, rfl⟩ (Nat.le_of_ble_eq_true rfl) rfl [some (.ref (ad 71)), none, none] rfl (fun p e s m args below meth c C => ?_)
  unfold sh_X4_readLink at hsh
  refine v_aloadn C dX4_readLink_0 rfl ?_
  refine v_bipush C dX4_readLink_1 (v := 97) (by decide) ?_
  refine v_bipush C dX4_readLink_3 (v := 97) (by decide) ?_
  refine v_aloadn C dX4_readLink_5 rfl ?_
  refine f4_9 C dX4_readLink_6 ?_
  refine v_iadd C dX4_readLink_9 ?_
  refine v_iconst C dX4_readLink_10 (v := 1) (by decide) ?_
  refine v_isub C dX4_readLink_11 ?_
  obtain ⟨r2, e1, hsh⟩ := obp_e hsh
  refine v_callI (nP := 2) (k := 71) C (by decide) rfl rfl (c_X4_isNext l D t ad hI  e1) k702 k699 k701 kp39 k5 yo_X4_isNext ⟨Nat.le_of_ble_eq_true rfl, Nat.le_of_ble_eq_true rfl, rfl, rfl, Nat.zero_le _, Nat.zero_le _⟩ rfl rfl (Nat.le_of_ble_eq_true rfl) dX4_readLink_12 ?_
  refine v_if_ne C 20 dX4_readLink_15 (by decide) (fun hc => ?_) (fun hc => ?_)
  · replace hsh := ite_n hc hsh
    refine v_aloadn C dX4_readLink_20 rfl ?_
    refine f4_6 C dX4_readLink_21 ?_
    refine v_aloadn C dX4_readLink_24 rfl ?_
    refine f4_8 C dX4_readLink_25 ?_
    obtain ⟨h3, hsh⟩ := g_if hsh
    refine v_cld C (k := 76) (by decide) rfl (gin_in h3) dX4_readLink_28 ?_
    refine v_bipush C dX4_readLink_29 (v := 97) (by decide) ?_
    refine v_isub C dX4_readLink_31 ?_
    obtain ⟨z4, e5, hsh⟩ := bni_e hsh
    refine v_bi e5 ?_
    refine v_istoren C dX4_readLink_32 (by decide) ?_
    refine v_aloadn C dX4_readLink_33 rfl ?_
    refine v_dup C dX4_readLink_34 rfl ?_
    refine f4_8 C dX4_readLink_35 ?_
    refine v_iconst C dX4_readLink_38 (v := 1) (by decide) ?_
    refine v_iadd C dX4_readLink_39 ?_
    refine p4_8 C dX4_readLink_40 ?_
    obtain ⟨G6, e7, hsh⟩ := bng_e hsh
    refine v_bg e7 ?_
    refine v_aloadn C dX4_readLink_43 rfl ?_
    refine v_bipush C dX4_readLink_44 (v := 97) (by decide) ?_
    refine v_bipush C dX4_readLink_46 (v := 97) (by decide) ?_
    refine v_aloadn C dX4_readLink_48 rfl ?_
    refine f4_9 C dX4_readLink_49 ?_
    refine v_iadd C dX4_readLink_52 ?_
    refine v_iconst C dX4_readLink_53 (v := 1) (by decide) ?_
    refine v_isub C dX4_readLink_54 ?_
    obtain ⟨r9, e8, hsh⟩ := obp_e hsh
    refine v_callI (nP := 2) (k := 71) C (by decide) rfl rfl (c_X4_isNext l D t ad hI  e8) k702 k699 k701 kp39 k5 yo_X4_isNext ⟨Nat.le_of_ble_eq_true rfl, Nat.le_of_ble_eq_true rfl, rfl, rfl, Nat.zero_le _, Nat.zero_le _⟩ rfl rfl (Nat.le_of_ble_eq_true rfl) dX4_readLink_55 ?_
    refine v_if_eq C 77 dX4_readLink_58 (by decide) (fun hc => ?_) (fun hc => ?_)
    · replace hsh := ite_p hc hsh
      refine v_iconst C dX4_readLink_77 (v := 0) (by decide) ?_
      obtain ⟨rfl, rfl⟩ := so_i hsh
      exact v_zret C (Or.inl rfl) dX4_readLink_78
    · replace hsh := ite_n hc hsh
      refine v_aloadn C dX4_readLink_61 rfl ?_
      refine f4_6 C dX4_readLink_62 ?_
      refine v_aloadn C dX4_readLink_65 rfl ?_
      refine f4_8 C dX4_readLink_66 ?_
      obtain ⟨h10, hsh⟩ := g_if hsh
      refine v_cld C (k := 76) (by decide) rfl (gin_in h10) dX4_readLink_69 ?_
      refine v_bipush C dX4_readLink_70 (v := 97) (by decide) ?_
      refine v_isub C dX4_readLink_72 ?_
      refine v_iloadn C dX4_readLink_73 rfl ?_
      refine v_ic_ne C 79 dX4_readLink_74 (by decide) (fun hc => ?_) (fun hc => ?_)
      · replace hsh := ite_n hc hsh
        refine v_aloadn C dX4_readLink_79 rfl ?_
        refine f4_6 C dX4_readLink_80 ?_
        refine v_aloadn C dX4_readLink_83 rfl ?_
        refine f4_8 C dX4_readLink_84 ?_
        refine v_cld C (k := 76) (by decide) rfl (gin_in h10) dX4_readLink_87 ?_
        refine v_bipush C dX4_readLink_88 (v := 97) (by decide) ?_
        refine v_isub C dX4_readLink_90 ?_
        obtain ⟨z11, e12, hsh⟩ := bni_e hsh
        refine v_bi e12 ?_
        refine v_istoren C dX4_readLink_91 (by decide) ?_
        refine v_aloadn C dX4_readLink_92 rfl ?_
        refine v_dup C dX4_readLink_93 rfl ?_
        refine f4_8 C dX4_readLink_94 ?_
        refine v_iconst C dX4_readLink_97 (v := 1) (by decide) ?_
        refine v_iadd C dX4_readLink_98 ?_
        refine p4_8 C dX4_readLink_99 ?_
        obtain ⟨G13, e14, hsh⟩ := bng_e hsh
        refine v_bg e14 ?_
        refine v_aloadn C dX4_readLink_102 rfl ?_
        refine f4_12 C dX4_readLink_103 ?_
        refine v_iloadn C dX4_readLink_106 rfl ?_
        refine v_dup2 C dX4_readLink_107 rfl rfl ?_
        obtain ⟨h15, hsh⟩ := g_if hsh
        refine v_ld C (k := 79) (by decide) rfl (gin_in h15) dX4_readLink_108 ?_
        refine v_iconst C dX4_readLink_109 (v := 1) (by decide) ?_
        refine v_iloadn C dX4_readLink_110 rfl ?_
        refine v_ishl C dX4_readLink_111 ?_
        refine v_ior C dX4_readLink_112 ?_
        refine v_st C (k := 79) (by decide) (fun _ => rfl) (gin_in h15) dX4_readLink_113 ?_
        obtain ⟨G16, e17, hsh⟩ := bng_e hsh
        refine v_bg e17 ?_
        refine v_aloadn C dX4_readLink_114 rfl ?_
        refine f4_12 C dX4_readLink_115 ?_
        refine v_iloadn C dX4_readLink_118 rfl ?_
        refine v_dup2 C dX4_readLink_119 rfl rfl ?_
        obtain ⟨h18, hsh⟩ := g_if hsh
        refine v_ld C (k := 79) (by decide) rfl (gin_in h18) dX4_readLink_120 ?_
        refine v_iconst C dX4_readLink_121 (v := 1) (by decide) ?_
        refine v_iloadn C dX4_readLink_122 rfl ?_
        refine v_ishl C dX4_readLink_123 ?_
        refine v_ior C dX4_readLink_124 ?_
        refine v_st C (k := 79) (by decide) (fun _ => rfl) (gin_in h18) dX4_readLink_125 ?_
        obtain ⟨G19, e20, hsh⟩ := bng_e hsh
        refine v_bg e20 ?_
        refine v_iconst C dX4_readLink_126 (v := 1) (by decide) ?_
        obtain ⟨rfl, rfl⟩ := so_i hsh
        exact v_zret C (Or.inr rfl) dX4_readLink_127
      · replace hsh := ite_p hc hsh
        refine v_iconst C dX4_readLink_77 (v := 0) (by decide) ?_
        obtain ⟨rfl, rfl⟩ := so_i hsh
        exact v_zret C (Or.inl rfl) dX4_readLink_78
  · replace hsh := ite_p hc hsh
    refine v_iconst C dX4_readLink_18 (v := 0) (by decide) ?_
    obtain ⟨rfl, rfl⟩ := so_i hsh
    exact v_zret C (Or.inl rfl) dX4_readLink_19
theorem yo_X4_readLink : yOk yX4_readLink 0 := ⟨by decide, by decide, by decide +kernel⟩

def sh_X4_readText_15  (kt45 : Int32 → gG → Option (Int32 × gG)) : Nat → Int32 → gG → Option (Int32 × gG)
  | 0, _, _ => none
  | n + 1, l1, G => (if l1 = (0 : Int32) then kt45 l1 G else (if (16 : Int32) ≤ (G 71 9) then kt45 l1 G else (obi (sh_X4_takes (44 : Int32) G) fun r9 G10 => (if r9 = (0 : Int32) then kt45 l1 G10 else (obi (sh_X4_readLamp G10) fun r12 G13 => sh_X4_readText_15 kt45 n r12 G13)))))
def sh_X4_readText_92  (kt113 : Int32 → gG → Option (Int32 × gG)) : Nat → Int32 → gG → Option (Int32 × gG)
  | 0, _, _ => none
  | n + 1, l1, G => (if l1 = (0 : Int32) then kt113 l1 G else (obi (sh_X4_takes (44 : Int32) G) fun r15 G16 => (if r15 = (0 : Int32) then kt113 l1 G16 else (obi (sh_X4_readLink G16) fun r18 G19 => sh_X4_readText_92 kt113 n r18 G19))))
def sh_X4_readText_j113 (l1 : Int32) (G : gG) : Option (Int32 × gG) := (if l1 = (0 : Int32) then some ((0 : Int32), G) else (if (G 71 8) = (G 71 7) then some ((1 : Int32), G) else some ((0 : Int32), G)))
def sh_X4_readText_j45 (l1 : Int32) (G : gG) : Option (Int32 × gG) := (if l1 = (0 : Int32) then (if nbB l1 = true then some (l1, G) else none) else (if (G 71 8) = (G 71 7) then (if nbB l1 = true then some (l1, G) else none) else (if (G 71 9) ≤ (1 : Int32) then (sh_X4_readText_92 (fun l1 G => (sh_X4_readText_j113 l1 G)) FU (0 : Int32) G) else (obi (sh_X4_takes (59 : Int32) G) fun r21 G22 => (if r21 = (0 : Int32) then (sh_X4_readText_92 (fun l1 G => (sh_X4_readText_j113 l1 G)) FU (0 : Int32) G22) else (obi (sh_X4_readLink G22) fun r24 G25 => (if r24 = (0 : Int32) then (sh_X4_readText_92 (fun l1 G => (sh_X4_readText_j113 l1 G)) FU (0 : Int32) G25) else (sh_X4_readText_92 (fun l1 G => (sh_X4_readText_j113 l1 G)) FU (1 : Int32) G25))))))))
def sh_X4_readText (G : gG) : Option (Int32 × gG) := (bng (gu G 71 8 (0 : Int32)) fun G1 => (bng (gu G1 71 9 (0 : Int32)) fun G3 => (obi (sh_X4_readLamp G3) fun r6 G7 => (sh_X4_readText_15 (fun l1 G => (sh_X4_readText_j45 l1 G)) FU r6 G7))))
set_option maxRecDepth 100000 in
set_option maxHeartbeats 4000000 in
theorem lp_X4_readText_15 {p : Program} {l : Launch} {e : Env} {s : State} {m : MethodId} {args : Array Value} {below : List Frame} {meth : Method} {c : Code} {D : va_G} {t : gT} {ad : Nat → Nat} (C : gC p s m args meth c cX4_readText RX4 2 (some .boolean) (isW ad) D t ad) (hI : gI ad) {r0 : Int32} {G0 : gG} {kt45 : Int32 → gG → Option (Int32 × gG)} (hk45 : ∀ (l1 : Int32) (G : gG) , kt45 l1 G = some (r0, G0) → V p l e (rM 4 90) s m args below meth c (isW ad) D t ad 0 0 2 (Qi below D t ad args s r0 G0) G 45 [some (.ref (ad 71)), some (.int l1)] []) : ∀ (n : Nat) (l1 : Int32) (G : gG) , sh_X4_readText_15 kt45 n l1 G = some (r0, G0) → V p l e (rM 4 90) s m args below meth c (isW ad) D t ad 0 0 2 (Qi below D t ad args s r0 G0) G 15 [some (.ref (ad 71)), some (.int l1)] [] := by
  intro n
  induction n with
  | zero => intro l1 G hsh; rw [sh_X4_readText_15.eq_1] at hsh; cases hsh
  | succ n ih =>
    intro l1 G hsh
    rw [sh_X4_readText_15.eq_2] at hsh
    refine v_iloadn C dX4_readText_15 rfl ?_
    refine v_if_eq C 45 dX4_readText_16 (by decide) (fun hc => ?_) (fun hc => ?_)
    · replace hsh := ite_p hc hsh
      exact v_wk (hk45 _ _ hsh) (wk_of (And.intro rfl (And.intro rfl trivial)))
    · replace hsh := ite_n hc hsh
      refine v_aloadn C dX4_readText_19 rfl ?_
      refine f4_9 C dX4_readText_20 ?_
      refine v_bipush C dX4_readText_23 (v := 16) (by decide) ?_
      refine v_ic_ge C 45 dX4_readText_25 (by decide) (fun hc => ?_) (fun hc => ?_)
      · replace hsh := ite_p hc hsh
        exact v_wk (hk45 _ _ hsh) (wk_of (And.intro rfl (And.intro rfl trivial)))
      · replace hsh := ite_n hc hsh
        refine v_aloadn C dX4_readText_28 rfl ?_
        refine v_bipush C dX4_readText_29 (v := 44) (by decide) ?_
        obtain ⟨r9, G10, e8, hsh⟩ := obi_e hsh
        refine v_callI (nP := 1) (k := 71) C (by decide) rfl rfl (c_X4_takes l D t ad hI  e8) k709 k706 k708 kp40 k5 yo_X4_takes ⟨Nat.le_of_ble_eq_true rfl, Nat.le_of_ble_eq_true rfl, rfl, rfl, Nat.zero_le _, Nat.zero_le _⟩ rfl rfl (Nat.le_of_ble_eq_true rfl) dX4_readText_31 ?_
        refine v_if_eq C 45 dX4_readText_34 (by decide) (fun hc => ?_) (fun hc => ?_)
        · replace hsh := ite_p hc hsh
          exact v_wk (hk45 _ _ hsh) (wk_of (And.intro rfl (And.intro rfl trivial)))
        · replace hsh := ite_n hc hsh
          refine v_aloadn C dX4_readText_37 rfl ?_
          obtain ⟨r12, G13, e11, hsh⟩ := obi_e hsh
          refine v_callI (nP := 0) (k := 71) C (by decide) rfl rfl (c_X4_readLamp l D t ad hI  e11) k694 k691 k693 kp37 k5 yo_X4_readLamp ⟨Nat.le_of_ble_eq_true rfl, Nat.le_of_ble_eq_true rfl, rfl, rfl, Nat.zero_le _, Nat.zero_le _⟩ rfl rfl (Nat.le_of_ble_eq_true rfl) dX4_readText_38 ?_
          refine v_istoren C dX4_readText_41 (by decide) ?_
          refine v_goto C 15 dX4_readText_42 (by decide) ?_
          exact v_wk (ih _ _ hsh) (wk_of (And.intro rfl (And.intro rfl trivial)))
set_option maxRecDepth 100000 in
set_option maxHeartbeats 4000000 in
theorem lp_X4_readText_92 {p : Program} {l : Launch} {e : Env} {s : State} {m : MethodId} {args : Array Value} {below : List Frame} {meth : Method} {c : Code} {D : va_G} {t : gT} {ad : Nat → Nat} (C : gC p s m args meth c cX4_readText RX4 2 (some .boolean) (isW ad) D t ad) (hI : gI ad) {r0 : Int32} {G0 : gG} {kt113 : Int32 → gG → Option (Int32 × gG)} (hk113 : ∀ (l1 : Int32) (G : gG) , kt113 l1 G = some (r0, G0) → V p l e (rM 4 90) s m args below meth c (isW ad) D t ad 0 0 2 (Qi below D t ad args s r0 G0) G 113 [some (.ref (ad 71)), some (.int l1)] []) : ∀ (n : Nat) (l1 : Int32) (G : gG) , sh_X4_readText_92 kt113 n l1 G = some (r0, G0) → V p l e (rM 4 90) s m args below meth c (isW ad) D t ad 0 0 2 (Qi below D t ad args s r0 G0) G 92 [some (.ref (ad 71)), some (.int l1)] [] := by
  intro n
  induction n with
  | zero => intro l1 G hsh; rw [sh_X4_readText_92.eq_1] at hsh; cases hsh
  | succ n ih =>
    intro l1 G hsh
    rw [sh_X4_readText_92.eq_2] at hsh
    refine v_iloadn C dX4_readText_92 rfl ?_
    refine v_if_eq C 113 dX4_readText_93 (by decide) (fun hc => ?_) (fun hc => ?_)
    · replace hsh := ite_p hc hsh
      exact v_wk (hk113 _ _ hsh) (wk_of (And.intro rfl (And.intro rfl trivial)))
    · replace hsh := ite_n hc hsh
      refine v_aloadn C dX4_readText_96 rfl ?_
      refine v_bipush C dX4_readText_97 (v := 44) (by decide) ?_
      obtain ⟨r15, G16, e14, hsh⟩ := obi_e hsh
      refine v_callI (nP := 1) (k := 71) C (by decide) rfl rfl (c_X4_takes l D t ad hI  e14) k709 k706 k708 kp40 k5 yo_X4_takes ⟨Nat.le_of_ble_eq_true rfl, Nat.le_of_ble_eq_true rfl, rfl, rfl, Nat.zero_le _, Nat.zero_le _⟩ rfl rfl (Nat.le_of_ble_eq_true rfl) dX4_readText_99 ?_
      refine v_if_eq C 113 dX4_readText_102 (by decide) (fun hc => ?_) (fun hc => ?_)
      · replace hsh := ite_p hc hsh
        exact v_wk (hk113 _ _ hsh) (wk_of (And.intro rfl (And.intro rfl trivial)))
      · replace hsh := ite_n hc hsh
        refine v_aloadn C dX4_readText_105 rfl ?_
        obtain ⟨r18, G19, e17, hsh⟩ := obi_e hsh
        refine v_callI (nP := 0) (k := 71) C (by decide) rfl rfl (c_X4_readLink l D t ad hI  e17) k713 k710 k712 kp41 k5 yo_X4_readLink ⟨Nat.le_of_ble_eq_true rfl, Nat.le_of_ble_eq_true rfl, rfl, rfl, Nat.zero_le _, Nat.zero_le _⟩ rfl rfl (Nat.le_of_ble_eq_true rfl) dX4_readText_106 ?_
        refine v_istoren C dX4_readText_109 (by decide) ?_
        refine v_goto C 92 dX4_readText_110 (by decide) ?_
        exact v_wk (ih _ _ hsh) (wk_of (And.intro rfl (And.intro rfl trivial)))
set_option maxRecDepth 100000 in
set_option maxHeartbeats 4000000 in
theorem c_X4_readText (l : Launch) (D : va_G) (t : gT) (ad : Nat → Nat) (hI : gI ad) {G : gG} {r0 : Int32} {G0 : gG} (hsh : sh_X4_readText G = some (r0, G0)) : Mi l D t ad yX4_readText cX4_readText 2 (some .boolean) (rM 4 90) [.ref (ad 71)] G r0 G0 := by
  refine m_go hI RX4 rfl (by decide +kernel) ⟨rfl, rfl⟩ (Nat.le_of_ble_eq_true rfl) rfl [some (.ref (ad 71)), none] rfl (fun p e s m args below meth c C => ?_)
  unfold sh_X4_readText at hsh
  have hj113 : ∀ (l1 : Int32) (G : gG) , sh_X4_readText_j113 l1 G = some (r0, G0) → V p l e (rM 4 90) s m args below meth c (isW ad) D t ad 0 0 2 (Qi below D t ad args s r0 G0) G 113 [some (.ref (ad 71)), some (.int l1)] [] := by
    intro l1 G hsh
    unfold sh_X4_readText_j113 at hsh
    refine v_iloadn C dX4_readText_113 rfl ?_
    refine v_if_eq C 132 dX4_readText_114 (by decide) (fun hc => ?_) (fun hc => ?_)
    · replace hsh := ite_p hc hsh
      refine v_iconst C dX4_readText_132 (v := 0) (by decide) ?_
      obtain ⟨rfl, rfl⟩ := so_i hsh
      exact v_zret C (Or.inl rfl) dX4_readText_133
    · replace hsh := ite_n hc hsh
      refine v_aloadn C dX4_readText_117 rfl ?_
      refine f4_8 C dX4_readText_118 ?_
      refine v_aloadn C dX4_readText_121 rfl ?_
      refine f4_7 C dX4_readText_122 ?_
      refine v_ic_ne C 132 dX4_readText_125 (by decide) (fun hc => ?_) (fun hc => ?_)
      · replace hsh := ite_n hc hsh
        refine v_iconst C dX4_readText_132 (v := 0) (by decide) ?_
        obtain ⟨rfl, rfl⟩ := so_i hsh
        exact v_zret C (Or.inl rfl) dX4_readText_133
      · replace hsh := ite_p hc hsh
        refine v_iconst C dX4_readText_128 (v := 1) (by decide) ?_
        refine v_goto C 133 dX4_readText_129 (by decide) ?_
        obtain ⟨rfl, rfl⟩ := so_i hsh
        exact v_zret C (Or.inr rfl) dX4_readText_133
  have hj45 : ∀ (l1 : Int32) (G : gG) , sh_X4_readText_j45 l1 G = some (r0, G0) → V p l e (rM 4 90) s m args below meth c (isW ad) D t ad 0 0 2 (Qi below D t ad args s r0 G0) G 45 [some (.ref (ad 71)), some (.int l1)] [] := by
    intro l1 G hsh
    unfold sh_X4_readText_j45 at hsh
    refine v_iloadn C dX4_readText_45 rfl ?_
    refine v_if_eq C 60 dX4_readText_46 (by decide) (fun hc => ?_) (fun hc => ?_)
    · replace hsh := ite_p hc hsh
      refine v_iloadn C dX4_readText_60 rfl ?_
      obtain ⟨hnb, hsh⟩ := g_if hsh
      obtain ⟨rfl, rfl⟩ := so_i hsh
      exact v_zret C (nbB_n hnb) dX4_readText_61
    · replace hsh := ite_n hc hsh
      refine v_aloadn C dX4_readText_49 rfl ?_
      refine f4_8 C dX4_readText_50 ?_
      refine v_aloadn C dX4_readText_53 rfl ?_
      refine f4_7 C dX4_readText_54 ?_
      refine v_ic_ne C 62 dX4_readText_57 (by decide) (fun hc => ?_) (fun hc => ?_)
      · replace hsh := ite_n hc hsh
        refine v_aloadn C dX4_readText_62 rfl ?_
        refine f4_9 C dX4_readText_63 ?_
        refine v_iconst C dX4_readText_66 (v := 1) (by decide) ?_
        refine v_ic_le C 90 dX4_readText_67 (by decide) (fun hc => ?_) (fun hc => ?_)
        · replace hsh := ite_p hc hsh
          refine v_iconst C dX4_readText_90 (v := 0) (by decide) ?_
          refine v_istoren C dX4_readText_91 (by decide) ?_
          refine v_wk (lp_X4_readText_92 C hI (fun l1 G hsh => ?_) FU _ _ hsh) (wk_of (And.intro rfl (And.intro rfl trivial)))
          exact v_wk (hj113 _ _ hsh) (wk_of (And.intro rfl (And.intro rfl trivial)))
        · replace hsh := ite_n hc hsh
          refine v_aloadn C dX4_readText_70 rfl ?_
          refine v_bipush C dX4_readText_71 (v := 59) (by decide) ?_
          obtain ⟨r21, G22, e20, hsh⟩ := obi_e hsh
          refine v_callI (nP := 1) (k := 71) C (by decide) rfl rfl (c_X4_takes l D t ad hI  e20) k709 k706 k708 kp40 k5 yo_X4_takes ⟨Nat.le_of_ble_eq_true rfl, Nat.le_of_ble_eq_true rfl, rfl, rfl, Nat.zero_le _, Nat.zero_le _⟩ rfl rfl (Nat.le_of_ble_eq_true rfl) dX4_readText_73 ?_
          refine v_if_eq C 90 dX4_readText_76 (by decide) (fun hc => ?_) (fun hc => ?_)
          · replace hsh := ite_p hc hsh
            refine v_iconst C dX4_readText_90 (v := 0) (by decide) ?_
            refine v_istoren C dX4_readText_91 (by decide) ?_
            refine v_wk (lp_X4_readText_92 C hI (fun l1 G hsh => ?_) FU _ _ hsh) (wk_of (And.intro rfl (And.intro rfl trivial)))
            exact v_wk (hj113 _ _ hsh) (wk_of (And.intro rfl (And.intro rfl trivial)))
          · replace hsh := ite_n hc hsh
            refine v_aloadn C dX4_readText_79 rfl ?_
            obtain ⟨r24, G25, e23, hsh⟩ := obi_e hsh
            refine v_callI (nP := 0) (k := 71) C (by decide) rfl rfl (c_X4_readLink l D t ad hI  e23) k713 k710 k712 kp41 k5 yo_X4_readLink ⟨Nat.le_of_ble_eq_true rfl, Nat.le_of_ble_eq_true rfl, rfl, rfl, Nat.zero_le _, Nat.zero_le _⟩ rfl rfl (Nat.le_of_ble_eq_true rfl) dX4_readText_80 ?_
            refine v_if_eq C 90 dX4_readText_83 (by decide) (fun hc => ?_) (fun hc => ?_)
            · replace hsh := ite_p hc hsh
              refine v_iconst C dX4_readText_90 (v := 0) (by decide) ?_
              refine v_istoren C dX4_readText_91 (by decide) ?_
              refine v_wk (lp_X4_readText_92 C hI (fun l1 G hsh => ?_) FU _ _ hsh) (wk_of (And.intro rfl (And.intro rfl trivial)))
              exact v_wk (hj113 _ _ hsh) (wk_of (And.intro rfl (And.intro rfl trivial)))
            · replace hsh := ite_n hc hsh
              refine v_iconst C dX4_readText_86 (v := 1) (by decide) ?_
              refine v_goto C 91 dX4_readText_87 (by decide) ?_
              refine v_istoren C dX4_readText_91 (by decide) ?_
              refine v_wk (lp_X4_readText_92 C hI (fun l1 G hsh => ?_) FU _ _ hsh) (wk_of (And.intro rfl (And.intro rfl trivial)))
              exact v_wk (hj113 _ _ hsh) (wk_of (And.intro rfl (And.intro rfl trivial)))
      · replace hsh := ite_p hc hsh
        refine v_iloadn C dX4_readText_60 rfl ?_
        obtain ⟨hnb, hsh⟩ := g_if hsh
        obtain ⟨rfl, rfl⟩ := so_i hsh
        exact v_zret C (nbB_n hnb) dX4_readText_61
  refine v_aloadn C dX4_readText_0 rfl ?_
  refine v_iconst C dX4_readText_1 (v := 0) (by decide) ?_
  refine p4_8 C dX4_readText_2 ?_
  obtain ⟨G1, e2, hsh⟩ := bng_e hsh
  refine v_bg e2 ?_
  refine v_aloadn C dX4_readText_5 rfl ?_
  refine v_iconst C dX4_readText_6 (v := 0) (by decide) ?_
  refine p4_9 C dX4_readText_7 ?_
  obtain ⟨G3, e4, hsh⟩ := bng_e hsh
  refine v_bg e4 ?_
  refine v_aloadn C dX4_readText_10 rfl ?_
  obtain ⟨r6, G7, e5, hsh⟩ := obi_e hsh
  refine v_callI (nP := 0) (k := 71) C (by decide) rfl rfl (c_X4_readLamp l D t ad hI  e5) k694 k691 k693 kp37 k5 yo_X4_readLamp ⟨Nat.le_of_ble_eq_true rfl, Nat.le_of_ble_eq_true rfl, rfl, rfl, Nat.zero_le _, Nat.zero_le _⟩ rfl rfl (Nat.le_of_ble_eq_true rfl) dX4_readText_11 ?_
  refine v_istoren C dX4_readText_14 (by decide) ?_
  refine v_wk (lp_X4_readText_15 C hI (fun l1 G hsh => ?_) FU _ _ hsh) (wk_of (And.intro rfl (And.intro rfl trivial)))
  exact v_wk (hj45 _ _ hsh) (wk_of (And.intro rfl (And.intro rfl trivial)))
theorem yo_X4_readText : yOk yX4_readText 0 := ⟨by decide, by decide, by decide +kernel⟩

def sh_X4_readMesh_21  (kt89 : gG → Option (Int32 × gG)) : Nat → Int32 → gG → Option (Int32 × gG)
  | 0, _, _ => none
  | n + 1, l1, G => (if (16 : Int32) ≤ l1 then kt89  G else (obv (sh_X4_put l1 (0 : Int32) (0 : Int32) G) fun G7 => (obv (sh_X4_put l1 (8 : Int32) (0 : Int32) G7) fun G9 => (if (G9 71 9) ≤ l1 then sh_X4_readMesh_21 kt89 n (l1 + 1) G9 else (if gin l1 16 = true then (obv (sh_X4_lay l1 ((100 : Int32) * (G9 77 (l1).toNatClampNeg)) (G9 78 (l1).toNatClampNeg) G9) fun G12 => (obv (sh_X4_put l1 (8 : Int32) (G12 79 (l1).toNatClampNeg) G12) fun G14 => sh_X4_readMesh_21 kt89 n (l1 + 1) G14)) else none)))))
def sh_X4_readMesh (G : gG) : Option (Int32 × gG) := (obi (sh_X4_readText G) fun r2 G3 => (if r2 = (0 : Int32) then some (((-100 : Int32) - (G3 71 8)), G3) else (obv (sh_X4_record G3) fun G5 => (sh_X4_readMesh_21 (fun G => some ((G 71 9), G)) FU (0 : Int32) G5))))
set_option maxRecDepth 100000 in
set_option maxHeartbeats 4000000 in
theorem lp_X4_readMesh_21 {p : Program} {l : Launch} {e : Env} {s : State} {m : MethodId} {args : Array Value} {below : List Frame} {meth : Method} {c : Code} {D : va_G} {t : gT} {ad : Nat → Nat} (C : gC p s m args meth c cX4_readMesh RX4 2 (some .int) (isW ad) D t ad) (hI : gI ad) {r0 : Int32} {G0 : gG} {kt89 : gG → Option (Int32 × gG)} (hk89 : ∀ (G : gG) , kt89 G = some (r0, G0) → V p l e (rM 5 111) s m args below meth c (isW ad) D t ad 0 0 2 (Qi below D t ad args s r0 G0) G 89 [some (.ref (ad 71)), none] []) : ∀ (n : Nat) (l1 : Int32) (G : gG) , sh_X4_readMesh_21 kt89 n l1 G = some (r0, G0) → V p l e (rM 5 111) s m args below meth c (isW ad) D t ad 0 0 2 (Qi below D t ad args s r0 G0) G 21 [some (.ref (ad 71)), some (.int l1)] [] := by
  intro n
  induction n with
  | zero => intro l1 G hsh; rw [sh_X4_readMesh_21.eq_1] at hsh; cases hsh
  | succ n ih =>
    intro l1 G hsh
    rw [sh_X4_readMesh_21.eq_2] at hsh
    refine v_iloadn C dX4_readMesh_21 rfl ?_
    refine v_bipush C dX4_readMesh_22 (v := 16) (by decide) ?_
    refine v_ic_ge C 89 dX4_readMesh_24 (by decide) (fun hc => ?_) (fun hc => ?_)
    · replace hsh := ite_p hc hsh
      exact v_wk (hk89  _ hsh) (wk_of (And.intro rfl trivial))
    · replace hsh := ite_n hc hsh
      refine v_aloadn C dX4_readMesh_27 rfl ?_
      refine v_iloadn C dX4_readMesh_28 rfl ?_
      refine v_iconst C dX4_readMesh_29 (v := 0) (by decide) ?_
      refine v_iconst C dX4_readMesh_30 (v := 0) (by decide) ?_
      obtain ⟨G7, e6, hsh⟩ := obv_e hsh
      refine v_callV (nP := 3) (k := 71) C (by decide) rfl rfl (c_X4_put l D t ad hI  e6) k595 k592 k594 kp23 k5 yo_X4_put ⟨Nat.le_of_ble_eq_true rfl, Nat.le_of_ble_eq_true rfl, rfl, rfl, Nat.zero_le _, Nat.zero_le _⟩ rfl rfl (Nat.le_of_ble_eq_true rfl) dX4_readMesh_31 ?_
      refine v_aloadn C dX4_readMesh_34 rfl ?_
      refine v_iloadn C dX4_readMesh_35 rfl ?_
      refine v_bipush C dX4_readMesh_36 (v := 8) (by decide) ?_
      refine v_iconst C dX4_readMesh_38 (v := 0) (by decide) ?_
      obtain ⟨G9, e8, hsh⟩ := obv_e hsh
      refine v_callV (nP := 3) (k := 71) C (by decide) rfl rfl (c_X4_put l D t ad hI  e8) k595 k592 k594 kp23 k5 yo_X4_put ⟨Nat.le_of_ble_eq_true rfl, Nat.le_of_ble_eq_true rfl, rfl, rfl, Nat.zero_le _, Nat.zero_le _⟩ rfl rfl (Nat.le_of_ble_eq_true rfl) dX4_readMesh_39 ?_
      refine v_iloadn C dX4_readMesh_42 rfl ?_
      refine v_aloadn C dX4_readMesh_43 rfl ?_
      refine f4_9 C dX4_readMesh_44 ?_
      refine v_ic_ge C 83 dX4_readMesh_47 (by decide) (fun hc => ?_) (fun hc => ?_)
      · replace hsh := ite_p hc hsh
        refine v_iinc C dX4_readMesh_83 rfl (v := 1) (by decide) (by decide) ?_
        refine v_goto C 21 dX4_readMesh_86 (by decide) ?_
        exact v_wk (ih _ _ hsh) (wk_of (And.intro rfl (And.intro rfl trivial)))
      · replace hsh := ite_n hc hsh
        refine v_aloadn C dX4_readMesh_50 rfl ?_
        refine v_iloadn C dX4_readMesh_51 rfl ?_
        refine v_bipush C dX4_readMesh_52 (v := 100) (by decide) ?_
        refine v_aloadn C dX4_readMesh_54 rfl ?_
        refine f4_10 C dX4_readMesh_55 ?_
        refine v_iloadn C dX4_readMesh_58 rfl ?_
        obtain ⟨h10, hsh⟩ := g_if hsh
        refine v_ld C (k := 77) (by decide) rfl (gin_in h10) dX4_readMesh_59 ?_
        refine v_imul C dX4_readMesh_60 ?_
        refine v_aloadn C dX4_readMesh_61 rfl ?_
        refine f4_11 C dX4_readMesh_62 ?_
        refine v_iloadn C dX4_readMesh_65 rfl ?_
        refine v_ld C (k := 78) (by decide) rfl (gin_in h10) dX4_readMesh_66 ?_
        obtain ⟨G12, e11, hsh⟩ := obv_e hsh
        refine v_callV (nP := 3) (k := 71) C (by decide) rfl rfl (c_X4_lay l D t ad hI  e11) k591 k588 k590 kp22 k5 yo_X4_lay ⟨Nat.le_of_ble_eq_true rfl, Nat.le_of_ble_eq_true rfl, rfl, rfl, Nat.zero_le _, Nat.zero_le _⟩ rfl rfl (Nat.le_of_ble_eq_true rfl) dX4_readMesh_67 ?_
        refine v_aloadn C dX4_readMesh_70 rfl ?_
        refine v_iloadn C dX4_readMesh_71 rfl ?_
        refine v_bipush C dX4_readMesh_72 (v := 8) (by decide) ?_
        refine v_aloadn C dX4_readMesh_74 rfl ?_
        refine f4_12 C dX4_readMesh_75 ?_
        refine v_iloadn C dX4_readMesh_78 rfl ?_
        refine v_ld C (k := 79) (by decide) rfl (gin_in h10) dX4_readMesh_79 ?_
        obtain ⟨G14, e13, hsh⟩ := obv_e hsh
        refine v_callV (nP := 3) (k := 71) C (by decide) rfl rfl (c_X4_put l D t ad hI  e13) k595 k592 k594 kp23 k5 yo_X4_put ⟨Nat.le_of_ble_eq_true rfl, Nat.le_of_ble_eq_true rfl, rfl, rfl, Nat.zero_le _, Nat.zero_le _⟩ rfl rfl (Nat.le_of_ble_eq_true rfl) dX4_readMesh_80 ?_
        refine v_iinc C dX4_readMesh_83 rfl (v := 1) (by decide) (by decide) ?_
        refine v_goto C 21 dX4_readMesh_86 (by decide) ?_
        exact v_wk (ih _ _ hsh) (wk_of (And.intro rfl (And.intro rfl trivial)))
set_option maxRecDepth 100000 in
set_option maxHeartbeats 4000000 in
theorem c_X4_readMesh (l : Launch) (D : va_G) (t : gT) (ad : Nat → Nat) (hI : gI ad) {G : gG} {r0 : Int32} {G0 : gG} (hsh : sh_X4_readMesh G = some (r0, G0)) : Mi l D t ad yX4_readMesh cX4_readMesh 2 (some .int) (rM 5 111) [.ref (ad 71)] G r0 G0 := by
  refine m_go hI RX4 rfl (by decide +kernel) ⟨rfl, rfl⟩ (Nat.le_of_ble_eq_true rfl) rfl [some (.ref (ad 71)), none] rfl (fun p e s m args below meth c C => ?_)
  unfold sh_X4_readMesh at hsh
  refine v_aloadn C dX4_readMesh_0 rfl ?_
  obtain ⟨r2, G3, e1, hsh⟩ := obi_e hsh
  refine v_callI (nP := 0) (k := 71) C (by decide) rfl rfl (c_X4_readText l D t ad hI  e1) k690 k687 k689 kp36 k5 yo_X4_readText ⟨Nat.le_of_ble_eq_true rfl, Nat.le_of_ble_eq_true rfl, rfl, rfl, Nat.zero_le _, Nat.zero_le _⟩ rfl rfl (Nat.le_of_ble_eq_true rfl) dX4_readMesh_1 ?_
  refine v_if_ne C 15 dX4_readMesh_4 (by decide) (fun hc => ?_) (fun hc => ?_)
  · replace hsh := ite_n hc hsh
    refine v_aloadn C dX4_readMesh_15 rfl ?_
    obtain ⟨G5, e4, hsh⟩ := obv_e hsh
    refine v_callV (nP := 0) (k := 71) C (by decide) rfl rfl (c_X4_record l D t ad hI  e4) k584 k581 k583 kp21 k5 yo_X4_record ⟨Nat.le_of_ble_eq_true rfl, Nat.le_of_ble_eq_true rfl, rfl, rfl, Nat.zero_le _, Nat.zero_le _⟩ rfl rfl (Nat.le_of_ble_eq_true rfl) dX4_readMesh_16 ?_
    refine v_iconst C dX4_readMesh_19 (v := 0) (by decide) ?_
    refine v_istoren C dX4_readMesh_20 (by decide) ?_
    refine v_wk (lp_X4_readMesh_21 C hI (fun G hsh => ?_) FU _ _ hsh) (wk_of (And.intro rfl (And.intro rfl trivial)))
    refine v_aloadn C dX4_readMesh_89 rfl ?_
    refine f4_9 C dX4_readMesh_90 ?_
    obtain ⟨rfl, rfl⟩ := so_i hsh
    exact v_iret C dX4_readMesh_93
  · replace hsh := ite_p hc hsh
    refine v_bipush C dX4_readMesh_7 (v := -100) (by decide) ?_
    refine v_aloadn C dX4_readMesh_9 rfl ?_
    refine f4_8 C dX4_readMesh_10 ?_
    refine v_isub C dX4_readMesh_13 ?_
    obtain ⟨rfl, rfl⟩ := so_i hsh
    exact v_iret C dX4_readMesh_14
theorem yo_X4_readMesh : yOk yX4_readMesh 0 := ⟨by decide, by decide, by decide +kernel⟩

def sh_X4_undo (G : gG) : Option (Int32 × gG) := (if (G 71 2) = (0 : Int32) then some ((-5 : Int32), G) else (bng (gu G 71 2 ((G 71 2) - (1 : Int32))) fun G1 => (obv (sh_X4_copy 73 72 ((152 : Int32) * (G1 71 2)) (0 : Int32) G1) fun G4 => some ((G4 71 2), G4))))
set_option maxRecDepth 100000 in
set_option maxHeartbeats 4000000 in
theorem c_X4_undo (l : Launch) (D : va_G) (t : gT) (ad : Nat → Nat) (hI : gI ad) {G : gG} {r0 : Int32} {G0 : gG} (hsh : sh_X4_undo G = some (r0, G0)) : Mi l D t ad yX4_undo cX4_undo 1 (some .int) (rM 1 24) [.ref (ad 71)] G r0 G0 := by
  refine m_go hI RX4 rfl (by decide +kernel) ⟨rfl, rfl⟩ (Nat.le_of_ble_eq_true rfl) rfl [some (.ref (ad 71))] rfl (fun p e s m args below meth c C => ?_)
  unfold sh_X4_undo at hsh
  refine v_aloadn C dX4_undo_0 rfl ?_
  refine f4_2 C dX4_undo_1 ?_
  refine v_if_ne C 10 dX4_undo_4 (by decide) (fun hc => ?_) (fun hc => ?_)
  · replace hsh := ite_n hc hsh
    refine v_aloadn C dX4_undo_10 rfl ?_
    refine v_dup C dX4_undo_11 rfl ?_
    refine f4_2 C dX4_undo_12 ?_
    refine v_iconst C dX4_undo_15 (v := 1) (by decide) ?_
    refine v_isub C dX4_undo_16 ?_
    refine p4_2 C dX4_undo_17 ?_
    obtain ⟨G1, e2, hsh⟩ := bng_e hsh
    refine v_bg e2 ?_
    refine v_aloadn C dX4_undo_20 rfl ?_
    refine f4_1 C dX4_undo_21 ?_
    refine v_sipush C dX4_undo_24 (v := 152) (by decide) ?_
    refine v_aloadn C dX4_undo_27 rfl ?_
    refine f4_2 C dX4_undo_28 ?_
    refine v_imul C dX4_undo_31 ?_
    refine v_aloadn C dX4_undo_32 rfl ?_
    refine f4_0 C dX4_undo_33 ?_
    refine v_iconst C dX4_undo_36 (v := 0) (by decide) ?_
    obtain ⟨G4, e3, hsh⟩ := obv_e hsh
    refine v_callSv (nP := 4) C (c_X4_copy l D t ad hI isA73 isA72 e3) k587 k585 k586 k5 yo_X4_copy ⟨Nat.le_of_ble_eq_true rfl, Nat.le_of_ble_eq_true rfl, rfl, rfl, Nat.zero_le _, Nat.zero_le _⟩ rfl rfl (Nat.le_of_ble_eq_true rfl) dX4_undo_37 ?_
    refine v_aloadn C dX4_undo_40 rfl ?_
    refine f4_2 C dX4_undo_41 ?_
    obtain ⟨rfl, rfl⟩ := so_i hsh
    exact v_iret C dX4_undo_44
  · replace hsh := ite_p hc hsh
    refine v_bipush C dX4_undo_7 (v := -5) (by decide) ?_
    obtain ⟨rfl, rfl⟩ := so_i hsh
    exact v_iret C dX4_undo_9
theorem yo_X4_undo : yOk yX4_undo 0 := ⟨by decide, by decide, by decide +kernel⟩

def sh_X4_keep (G : gG) : Option (Int32 × gG) := (obv (sh_X4_copy 72 74 (0 : Int32) (0 : Int32) G) fun G2 => (bng (gu G2 71 4 (1 : Int32)) fun G3 => (obp (sh_X4_setOf (0 : Int32) G3) fun r6 => (obp (sh_X4_bits r6) fun r8 => some (r8, G3)))))
set_option maxRecDepth 100000 in
set_option maxHeartbeats 4000000 in
theorem c_X4_keep (l : Launch) (D : va_G) (t : gT) (ad : Nat → Nat) (hI : gI ad) {G : gG} {r0 : Int32} {G0 : gG} (hsh : sh_X4_keep G = some (r0, G0)) : Mi l D t ad yX4_keep cX4_keep 1 (some .int) (rM 2 45) [.ref (ad 71)] G r0 G0 := by
  refine m_go hI RX4 rfl (by decide +kernel) ⟨rfl, rfl⟩ (Nat.le_of_ble_eq_true rfl) rfl [some (.ref (ad 71))] rfl (fun p e s m args below meth c C => ?_)
  unfold sh_X4_keep at hsh
  refine v_aloadn C dX4_keep_0 rfl ?_
  refine f4_0 C dX4_keep_1 ?_
  refine v_iconst C dX4_keep_4 (v := 0) (by decide) ?_
  refine v_aloadn C dX4_keep_5 rfl ?_
  refine f4_3 C dX4_keep_6 ?_
  refine v_iconst C dX4_keep_9 (v := 0) (by decide) ?_
  obtain ⟨G2, e1, hsh⟩ := obv_e hsh
  refine v_callSv (nP := 4) C (c_X4_copy l D t ad hI isA72 isA74 e1) k587 k585 k586 k5 yo_X4_copy ⟨Nat.le_of_ble_eq_true rfl, Nat.le_of_ble_eq_true rfl, rfl, rfl, Nat.zero_le _, Nat.zero_le _⟩ rfl rfl (Nat.le_of_ble_eq_true rfl) dX4_keep_10 ?_
  refine v_aloadn C dX4_keep_13 rfl ?_
  refine v_iconst C dX4_keep_14 (v := 1) (by decide) ?_
  refine p4_4 C (Or.inr rfl) dX4_keep_15 ?_
  obtain ⟨G3, e4, hsh⟩ := bng_e hsh
  refine v_bg e4 ?_
  refine v_aloadn C dX4_keep_18 rfl ?_
  refine v_iconst C dX4_keep_19 (v := 0) (by decide) ?_
  obtain ⟨r6, e5, hsh⟩ := obp_e hsh
  refine v_callI (nP := 1) (k := 71) C (by decide) rfl rfl (c_X4_setOf l D t ad hI  e5) k626 k623 k625 kp28 k5 yo_X4_setOf ⟨Nat.le_of_ble_eq_true rfl, Nat.le_of_ble_eq_true rfl, rfl, rfl, Nat.zero_le _, Nat.zero_le _⟩ rfl rfl (Nat.le_of_ble_eq_true rfl) dX4_keep_20 ?_
  obtain ⟨r8, e7, hsh⟩ := obp_e hsh
  refine v_callS (nP := 1) C (c_X4_bits l D t ad hI  (G := G3) e7) k610 k608 k609 k5 yo_X4_bits ⟨Nat.le_of_ble_eq_true rfl, Nat.le_of_ble_eq_true rfl, rfl, rfl, Nat.zero_le _, Nat.zero_le _⟩ rfl rfl (Nat.le_of_ble_eq_true rfl) dX4_keep_23 ?_
  obtain ⟨rfl, rfl⟩ := so_i hsh
  exact v_iret C dX4_keep_26
theorem yo_X4_keep : yOk yX4_keep 0 := ⟨by decide, by decide, by decide +kernel⟩

def sh_X4_restore (G : gG) : Option (Int32 × gG) := (if (G 71 4) = (0 : Int32) then some ((-5 : Int32), G) else (obv (sh_X4_record G) fun G2 => (obv (sh_X4_copy 74 72 (0 : Int32) (0 : Int32) G2) fun G4 => (obp (sh_X4_setOf (0 : Int32) G4) fun r6 => (obp (sh_X4_bits r6) fun r8 => some (r8, G4))))))
set_option maxRecDepth 100000 in
set_option maxHeartbeats 4000000 in
theorem c_X4_restore (l : Launch) (D : va_G) (t : gT) (ad : Nat → Nat) (hI : gI ad) {G : gG} {r0 : Int32} {G0 : gG} (hsh : sh_X4_restore G = some (r0, G0)) : Mi l D t ad yX4_restore cX4_restore 1 (some .int) (rM 2 45) [.ref (ad 71)] G r0 G0 := by
  refine m_go hI RX4 rfl (by decide +kernel) ⟨rfl, rfl⟩ (Nat.le_of_ble_eq_true rfl) rfl [some (.ref (ad 71))] rfl (fun p e s m args below meth c C => ?_)
  unfold sh_X4_restore at hsh
  refine v_aloadn C dX4_restore_0 rfl ?_
  refine f4_4 C dX4_restore_1 ?_
  refine v_if_ne C 10 dX4_restore_4 (by decide) (fun hc => ?_) (fun hc => ?_)
  · replace hsh := ite_n hc hsh
    refine v_aloadn C dX4_restore_10 rfl ?_
    obtain ⟨G2, e1, hsh⟩ := obv_e hsh
    refine v_callV (nP := 0) (k := 71) C (by decide) rfl rfl (c_X4_record l D t ad hI  e1) k584 k581 k583 kp21 k5 yo_X4_record ⟨Nat.le_of_ble_eq_true rfl, Nat.le_of_ble_eq_true rfl, rfl, rfl, Nat.zero_le _, Nat.zero_le _⟩ rfl rfl (Nat.le_of_ble_eq_true rfl) dX4_restore_11 ?_
    refine v_aloadn C dX4_restore_14 rfl ?_
    refine f4_3 C dX4_restore_15 ?_
    refine v_iconst C dX4_restore_18 (v := 0) (by decide) ?_
    refine v_aloadn C dX4_restore_19 rfl ?_
    refine f4_0 C dX4_restore_20 ?_
    refine v_iconst C dX4_restore_23 (v := 0) (by decide) ?_
    obtain ⟨G4, e3, hsh⟩ := obv_e hsh
    refine v_callSv (nP := 4) C (c_X4_copy l D t ad hI isA74 isA72 e3) k587 k585 k586 k5 yo_X4_copy ⟨Nat.le_of_ble_eq_true rfl, Nat.le_of_ble_eq_true rfl, rfl, rfl, Nat.zero_le _, Nat.zero_le _⟩ rfl rfl (Nat.le_of_ble_eq_true rfl) dX4_restore_24 ?_
    refine v_aloadn C dX4_restore_27 rfl ?_
    refine v_iconst C dX4_restore_28 (v := 0) (by decide) ?_
    obtain ⟨r6, e5, hsh⟩ := obp_e hsh
    refine v_callI (nP := 1) (k := 71) C (by decide) rfl rfl (c_X4_setOf l D t ad hI  e5) k626 k623 k625 kp28 k5 yo_X4_setOf ⟨Nat.le_of_ble_eq_true rfl, Nat.le_of_ble_eq_true rfl, rfl, rfl, Nat.zero_le _, Nat.zero_le _⟩ rfl rfl (Nat.le_of_ble_eq_true rfl) dX4_restore_29 ?_
    obtain ⟨r8, e7, hsh⟩ := obp_e hsh
    refine v_callS (nP := 1) C (c_X4_bits l D t ad hI  (G := G4) e7) k610 k608 k609 k5 yo_X4_bits ⟨Nat.le_of_ble_eq_true rfl, Nat.le_of_ble_eq_true rfl, rfl, rfl, Nat.zero_le _, Nat.zero_le _⟩ rfl rfl (Nat.le_of_ble_eq_true rfl) dX4_restore_32 ?_
    obtain ⟨rfl, rfl⟩ := so_i hsh
    exact v_iret C dX4_restore_35
  · replace hsh := ite_p hc hsh
    refine v_bipush C dX4_restore_7 (v := -5) (by decide) ?_
    obtain ⟨rfl, rfl⟩ := so_i hsh
    exact v_iret C dX4_restore_9
theorem yo_X4_restore : yOk yX4_restore 0 := ⟨by decide, by decide, by decide +kernel⟩

def sh_X4_lamp (l1 : Int32) (l2 : Int32) (G : gG) : Option (Int32) := (obp (sh_X4_isLamp l1 G) fun r2 => (if r2 = (0 : Int32) then some (-1 : Int32) else (if l2 = (0 : Int32) then (obp (sh_X4_of l1 (1 : Int32) G) fun r4 => some r4) else (if l2 = (1 : Int32) then (obp (sh_X4_of l1 (2 : Int32) G) fun r6 => some r6) else (if l2 = (2 : Int32) then (obp (sh_X4_of l1 (3 : Int32) G) fun r8 => some r8) else (if l2 = (3 : Int32) then (obp (sh_X4_of l1 (4 : Int32) G) fun r10 => some r10) else (if l2 = (4 : Int32) then (obp (sh_X4_of l1 (5 : Int32) G) fun r12 => some r12) else (if l2 = (5 : Int32) then (obp (sh_X4_of l1 (6 : Int32) G) fun r14 => some r14) else (if l2 = (6 : Int32) then (obp (sh_X4_of l1 (8 : Int32) G) fun r16 => some r16) else (if l2 = (7 : Int32) then (obp (sh_X4_pieceOf l1 G) fun r18 => some r18) else (if l2 = (8 : Int32) then (obp (sh_X4_agreeing l1 G) fun r20 => some r20) else (if l2 = (9 : Int32) then (obp (sh_X4_of l1 (7 : Int32) G) fun r22 => some r22) else some (-2 : Int32)))))))))))))
set_option maxRecDepth 100000 in
set_option maxHeartbeats 4000000 in
theorem c_X4_lamp (l : Launch) (D : va_G) (t : gT) (ad : Nat → Nat) (hI : gI ad) {l1 : Int32} {l2 : Int32} {G : gG} {r0 : Int32} (hsh : sh_X4_lamp l1 l2 G = some r0) : Mi l D t ad yX4_lamp cX4_lamp 3 (some .int) (rM 4 90) [.ref (ad 71), .int l1, .int l2] G r0 G := by
  refine m_go hI RX4 rfl (by decide +kernel) ⟨rfl, rfl⟩ (Nat.le_of_ble_eq_true rfl) rfl [some (.ref (ad 71)), some (.int l1), some (.int l2)] rfl (fun p e s m args below meth c C => ?_)
  unfold sh_X4_lamp at hsh
  refine v_aloadn C dX4_lamp_0 rfl ?_
  refine v_iloadn C dX4_lamp_1 rfl ?_
  obtain ⟨r2, e1, hsh⟩ := obp_e hsh
  refine v_callI (nP := 1) (k := 71) C (by decide) rfl rfl (c_X4_isLamp l D t ad hI  e1) k607 k604 k606 kp25 k5 yo_X4_isLamp ⟨Nat.le_of_ble_eq_true rfl, Nat.le_of_ble_eq_true rfl, rfl, rfl, Nat.zero_le _, Nat.zero_le _⟩ rfl rfl (Nat.le_of_ble_eq_true rfl) dX4_lamp_2 ?_
  refine v_if_ne C 10 dX4_lamp_5 (by decide) (fun hc => ?_) (fun hc => ?_)
  · replace hsh := ite_n hc hsh
    refine v_iloadn C dX4_lamp_10 rfl ?_
    by_cases h0 : l2 = (0 : Int32)
    · replace hsh := ite_p h0 hsh
      refine v_tabIn C 64 dX4_lamp_11 (by rw [h0]; decide) (by rw [h0]; decide) (off := 53) (by rw [h0]; rfl) (by decide) ?_
      refine v_aloadn C dX4_lamp_64 rfl ?_
      refine v_iloadn C dX4_lamp_65 rfl ?_
      refine v_iconst C dX4_lamp_66 (v := 1) (by decide) ?_
      obtain ⟨r4, e3, hsh⟩ := obp_e hsh
      refine v_callI (nP := 2) (k := 71) C (by decide) rfl rfl (c_X4_of l D t ad hI  e3) k580 k577 k579 kp20 k5 yo_X4_of ⟨Nat.le_of_ble_eq_true rfl, Nat.le_of_ble_eq_true rfl, rfl, rfl, Nat.zero_le _, Nat.zero_le _⟩ rfl rfl (Nat.le_of_ble_eq_true rfl) dX4_lamp_67 ?_
      obtain rfl := so_1 hsh
      exact v_iret C dX4_lamp_70
    · replace hsh := ite_n h0 hsh
      by_cases h1 : l2 = (1 : Int32)
      · replace hsh := ite_p h1 hsh
        refine v_tabIn C 71 dX4_lamp_11 (by rw [h1]; decide) (by rw [h1]; decide) (off := 60) (by rw [h1]; rfl) (by decide) ?_
        refine v_aloadn C dX4_lamp_71 rfl ?_
        refine v_iloadn C dX4_lamp_72 rfl ?_
        refine v_iconst C dX4_lamp_73 (v := 2) (by decide) ?_
        obtain ⟨r6, e5, hsh⟩ := obp_e hsh
        refine v_callI (nP := 2) (k := 71) C (by decide) rfl rfl (c_X4_of l D t ad hI  e5) k580 k577 k579 kp20 k5 yo_X4_of ⟨Nat.le_of_ble_eq_true rfl, Nat.le_of_ble_eq_true rfl, rfl, rfl, Nat.zero_le _, Nat.zero_le _⟩ rfl rfl (Nat.le_of_ble_eq_true rfl) dX4_lamp_74 ?_
        obtain rfl := so_1 hsh
        exact v_iret C dX4_lamp_77
      · replace hsh := ite_n h1 hsh
        by_cases h2 : l2 = (2 : Int32)
        · replace hsh := ite_p h2 hsh
          refine v_tabIn C 78 dX4_lamp_11 (by rw [h2]; decide) (by rw [h2]; decide) (off := 67) (by rw [h2]; rfl) (by decide) ?_
          refine v_aloadn C dX4_lamp_78 rfl ?_
          refine v_iloadn C dX4_lamp_79 rfl ?_
          refine v_iconst C dX4_lamp_80 (v := 3) (by decide) ?_
          obtain ⟨r8, e7, hsh⟩ := obp_e hsh
          refine v_callI (nP := 2) (k := 71) C (by decide) rfl rfl (c_X4_of l D t ad hI  e7) k580 k577 k579 kp20 k5 yo_X4_of ⟨Nat.le_of_ble_eq_true rfl, Nat.le_of_ble_eq_true rfl, rfl, rfl, Nat.zero_le _, Nat.zero_le _⟩ rfl rfl (Nat.le_of_ble_eq_true rfl) dX4_lamp_81 ?_
          obtain rfl := so_1 hsh
          exact v_iret C dX4_lamp_84
        · replace hsh := ite_n h2 hsh
          by_cases h3 : l2 = (3 : Int32)
          · replace hsh := ite_p h3 hsh
            refine v_tabIn C 85 dX4_lamp_11 (by rw [h3]; decide) (by rw [h3]; decide) (off := 74) (by rw [h3]; rfl) (by decide) ?_
            refine v_aloadn C dX4_lamp_85 rfl ?_
            refine v_iloadn C dX4_lamp_86 rfl ?_
            refine v_iconst C dX4_lamp_87 (v := 4) (by decide) ?_
            obtain ⟨r10, e9, hsh⟩ := obp_e hsh
            refine v_callI (nP := 2) (k := 71) C (by decide) rfl rfl (c_X4_of l D t ad hI  e9) k580 k577 k579 kp20 k5 yo_X4_of ⟨Nat.le_of_ble_eq_true rfl, Nat.le_of_ble_eq_true rfl, rfl, rfl, Nat.zero_le _, Nat.zero_le _⟩ rfl rfl (Nat.le_of_ble_eq_true rfl) dX4_lamp_88 ?_
            obtain rfl := so_1 hsh
            exact v_iret C dX4_lamp_91
          · replace hsh := ite_n h3 hsh
            by_cases h4 : l2 = (4 : Int32)
            · replace hsh := ite_p h4 hsh
              refine v_tabIn C 92 dX4_lamp_11 (by rw [h4]; decide) (by rw [h4]; decide) (off := 81) (by rw [h4]; rfl) (by decide) ?_
              refine v_aloadn C dX4_lamp_92 rfl ?_
              refine v_iloadn C dX4_lamp_93 rfl ?_
              refine v_iconst C dX4_lamp_94 (v := 5) (by decide) ?_
              obtain ⟨r12, e11, hsh⟩ := obp_e hsh
              refine v_callI (nP := 2) (k := 71) C (by decide) rfl rfl (c_X4_of l D t ad hI  e11) k580 k577 k579 kp20 k5 yo_X4_of ⟨Nat.le_of_ble_eq_true rfl, Nat.le_of_ble_eq_true rfl, rfl, rfl, Nat.zero_le _, Nat.zero_le _⟩ rfl rfl (Nat.le_of_ble_eq_true rfl) dX4_lamp_95 ?_
              obtain rfl := so_1 hsh
              exact v_iret C dX4_lamp_98
            · replace hsh := ite_n h4 hsh
              by_cases h5 : l2 = (5 : Int32)
              · replace hsh := ite_p h5 hsh
                refine v_tabIn C 99 dX4_lamp_11 (by rw [h5]; decide) (by rw [h5]; decide) (off := 88) (by rw [h5]; rfl) (by decide) ?_
                refine v_aloadn C dX4_lamp_99 rfl ?_
                refine v_iloadn C dX4_lamp_100 rfl ?_
                refine v_bipush C dX4_lamp_101 (v := 6) (by decide) ?_
                obtain ⟨r14, e13, hsh⟩ := obp_e hsh
                refine v_callI (nP := 2) (k := 71) C (by decide) rfl rfl (c_X4_of l D t ad hI  e13) k580 k577 k579 kp20 k5 yo_X4_of ⟨Nat.le_of_ble_eq_true rfl, Nat.le_of_ble_eq_true rfl, rfl, rfl, Nat.zero_le _, Nat.zero_le _⟩ rfl rfl (Nat.le_of_ble_eq_true rfl) dX4_lamp_103 ?_
                obtain rfl := so_1 hsh
                exact v_iret C dX4_lamp_106
              · replace hsh := ite_n h5 hsh
                by_cases h6 : l2 = (6 : Int32)
                · replace hsh := ite_p h6 hsh
                  refine v_tabIn C 107 dX4_lamp_11 (by rw [h6]; decide) (by rw [h6]; decide) (off := 96) (by rw [h6]; rfl) (by decide) ?_
                  refine v_aloadn C dX4_lamp_107 rfl ?_
                  refine v_iloadn C dX4_lamp_108 rfl ?_
                  refine v_bipush C dX4_lamp_109 (v := 8) (by decide) ?_
                  obtain ⟨r16, e15, hsh⟩ := obp_e hsh
                  refine v_callI (nP := 2) (k := 71) C (by decide) rfl rfl (c_X4_of l D t ad hI  e15) k580 k577 k579 kp20 k5 yo_X4_of ⟨Nat.le_of_ble_eq_true rfl, Nat.le_of_ble_eq_true rfl, rfl, rfl, Nat.zero_le _, Nat.zero_le _⟩ rfl rfl (Nat.le_of_ble_eq_true rfl) dX4_lamp_111 ?_
                  obtain rfl := so_1 hsh
                  exact v_iret C dX4_lamp_114
                · replace hsh := ite_n h6 hsh
                  by_cases h7 : l2 = (7 : Int32)
                  · replace hsh := ite_p h7 hsh
                    refine v_tabIn C 115 dX4_lamp_11 (by rw [h7]; decide) (by rw [h7]; decide) (off := 104) (by rw [h7]; rfl) (by decide) ?_
                    refine v_aloadn C dX4_lamp_115 rfl ?_
                    refine v_iloadn C dX4_lamp_116 rfl ?_
                    obtain ⟨r18, e17, hsh⟩ := obp_e hsh
                    refine v_callI (nP := 1) (k := 71) C (by decide) rfl rfl (c_X4_pieceOf l D t ad hI  e17) k733 k730 k732 kp42 k5 yo_X4_pieceOf ⟨Nat.le_of_ble_eq_true rfl, Nat.le_of_ble_eq_true rfl, rfl, rfl, Nat.zero_le _, Nat.zero_le _⟩ rfl rfl (Nat.le_of_ble_eq_true rfl) dX4_lamp_117 ?_
                    obtain rfl := so_1 hsh
                    exact v_iret C dX4_lamp_120
                  · replace hsh := ite_n h7 hsh
                    by_cases h8 : l2 = (8 : Int32)
                    · replace hsh := ite_p h8 hsh
                      refine v_tabIn C 121 dX4_lamp_11 (by rw [h8]; decide) (by rw [h8]; decide) (off := 110) (by rw [h8]; rfl) (by decide) ?_
                      refine v_aloadn C dX4_lamp_121 rfl ?_
                      refine v_iloadn C dX4_lamp_122 rfl ?_
                      obtain ⟨r20, e19, hsh⟩ := obp_e hsh
                      refine v_callI (nP := 1) (k := 71) C (by decide) rfl rfl (c_X4_agreeing l D t ad hI  e19) k737 k734 k736 kp43 k5 yo_X4_agreeing ⟨Nat.le_of_ble_eq_true rfl, Nat.le_of_ble_eq_true rfl, rfl, rfl, Nat.zero_le _, Nat.zero_le _⟩ rfl rfl (Nat.le_of_ble_eq_true rfl) dX4_lamp_123 ?_
                      obtain rfl := so_1 hsh
                      exact v_iret C dX4_lamp_126
                    · replace hsh := ite_n h8 hsh
                      by_cases h9 : l2 = (9 : Int32)
                      · replace hsh := ite_p h9 hsh
                        refine v_tabIn C 127 dX4_lamp_11 (by rw [h9]; decide) (by rw [h9]; decide) (off := 116) (by rw [h9]; rfl) (by decide) ?_
                        refine v_aloadn C dX4_lamp_127 rfl ?_
                        refine v_iloadn C dX4_lamp_128 rfl ?_
                        refine v_bipush C dX4_lamp_129 (v := 7) (by decide) ?_
                        obtain ⟨r22, e21, hsh⟩ := obp_e hsh
                        refine v_callI (nP := 2) (k := 71) C (by decide) rfl rfl (c_X4_of l D t ad hI  e21) k580 k577 k579 kp20 k5 yo_X4_of ⟨Nat.le_of_ble_eq_true rfl, Nat.le_of_ble_eq_true rfl, rfl, rfl, Nat.zero_le _, Nat.zero_le _⟩ rfl rfl (Nat.le_of_ble_eq_true rfl) dX4_lamp_131 ?_
                        obtain rfl := so_1 hsh
                        exact v_iret C dX4_lamp_134
                      · replace hsh := ite_n h9 hsh
                        refine v_tabOut C 135 dX4_lamp_11 (by have e0 := ne_toInt h0; have e1 := ne_toInt h1; have e2 := ne_toInt h2; have e3 := ne_toInt h3; have e4 := ne_toInt h4; have e5 := ne_toInt h5; have e6 := ne_toInt h6; have e7 := ne_toInt h7; have e8 := ne_toInt h8; have e9 := ne_toInt h9; have w0 : (0 : Int32).toInt = 0 := (by decide); have w1 : (1 : Int32).toInt = 1 := (by decide); have w2 : (2 : Int32).toInt = 2 := (by decide); have w3 : (3 : Int32).toInt = 3 := (by decide); have w4 : (4 : Int32).toInt = 4 := (by decide); have w5 : (5 : Int32).toInt = 5 := (by decide); have w6 : (6 : Int32).toInt = 6 := (by decide); have w7 : (7 : Int32).toInt = 7 := (by decide); have w8 : (8 : Int32).toInt = 8 := (by decide); have w9 : (9 : Int32).toInt = 9 := (by decide); omega) (by decide) ?_
                        refine v_bipush C dX4_lamp_135 (v := -2) (by decide) ?_
                        obtain rfl := so_1 hsh
                        exact v_iret C dX4_lamp_137
  · replace hsh := ite_p hc hsh
    refine v_iconst C dX4_lamp_8 (v := -1) (by decide) ?_
    obtain rfl := so_1 hsh
    exact v_iret C dX4_lamp_9
theorem yo_X4_lamp : yOk yX4_lamp 2 := ⟨by decide, by decide, by decide +kernel⟩

def sh_X4_apart (l1 : Int32) (l2 : Int32) (G : gG) : Option (Int32) := (obp (sh_X4_isLamp l1 G) fun r2 => (if r2 = (0 : Int32) then some (-1 : Int32) else (obp (sh_X4_isLamp l2 G) fun r4 => (if r4 = (0 : Int32) then some (-1 : Int32) else (obp (sh_X4_distance l1 l2 G) fun r6 => some r6)))))
set_option maxRecDepth 100000 in
set_option maxHeartbeats 4000000 in
theorem c_X4_apart (l : Launch) (D : va_G) (t : gT) (ad : Nat → Nat) (hI : gI ad) {l1 : Int32} {l2 : Int32} {G : gG} {r0 : Int32} (hsh : sh_X4_apart l1 l2 G = some r0) : Mi l D t ad yX4_apart cX4_apart 3 (some .int) (rM 2 45) [.ref (ad 71), .int l1, .int l2] G r0 G := by
  refine m_go hI RX4 rfl (by decide +kernel) ⟨rfl, rfl⟩ (Nat.le_of_ble_eq_true rfl) rfl [some (.ref (ad 71)), some (.int l1), some (.int l2)] rfl (fun p e s m args below meth c C => ?_)
  unfold sh_X4_apart at hsh
  refine v_aloadn C dX4_apart_0 rfl ?_
  refine v_iloadn C dX4_apart_1 rfl ?_
  obtain ⟨r2, e1, hsh⟩ := obp_e hsh
  refine v_callI (nP := 1) (k := 71) C (by decide) rfl rfl (c_X4_isLamp l D t ad hI  e1) k607 k604 k606 kp25 k5 yo_X4_isLamp ⟨Nat.le_of_ble_eq_true rfl, Nat.le_of_ble_eq_true rfl, rfl, rfl, Nat.zero_le _, Nat.zero_le _⟩ rfl rfl (Nat.le_of_ble_eq_true rfl) dX4_apart_2 ?_
  refine v_if_eq C 25 dX4_apart_5 (by decide) (fun hc => ?_) (fun hc => ?_)
  · replace hsh := ite_p hc hsh
    refine v_iconst C dX4_apart_25 (v := -1) (by decide) ?_
    obtain rfl := so_1 hsh
    exact v_iret C dX4_apart_26
  · replace hsh := ite_n hc hsh
    refine v_aloadn C dX4_apart_8 rfl ?_
    refine v_iloadn C dX4_apart_9 rfl ?_
    obtain ⟨r4, e3, hsh⟩ := obp_e hsh
    refine v_callI (nP := 1) (k := 71) C (by decide) rfl rfl (c_X4_isLamp l D t ad hI  e3) k607 k604 k606 kp25 k5 yo_X4_isLamp ⟨Nat.le_of_ble_eq_true rfl, Nat.le_of_ble_eq_true rfl, rfl, rfl, Nat.zero_le _, Nat.zero_le _⟩ rfl rfl (Nat.le_of_ble_eq_true rfl) dX4_apart_10 ?_
    refine v_if_eq C 25 dX4_apart_13 (by decide) (fun hc => ?_) (fun hc => ?_)
    · replace hsh := ite_p hc hsh
      refine v_iconst C dX4_apart_25 (v := -1) (by decide) ?_
      obtain rfl := so_1 hsh
      exact v_iret C dX4_apart_26
    · replace hsh := ite_n hc hsh
      refine v_aloadn C dX4_apart_16 rfl ?_
      refine v_iloadn C dX4_apart_17 rfl ?_
      refine v_iloadn C dX4_apart_18 rfl ?_
      obtain ⟨r6, e5, hsh⟩ := obp_e hsh
      refine v_callI (nP := 2) (k := 71) C (by decide) rfl rfl (c_X4_distance l D t ad hI  e5) k745 k742 k744 kp44 k5 yo_X4_distance ⟨Nat.le_of_ble_eq_true rfl, Nat.le_of_ble_eq_true rfl, rfl, rfl, Nat.zero_le _, Nat.zero_le _⟩ rfl rfl (Nat.le_of_ble_eq_true rfl) dX4_apart_19 ?_
      refine v_goto C 26 dX4_apart_22 (by decide) ?_
      obtain rfl := so_1 hsh
      exact v_iret C dX4_apart_26
theorem yo_X4_apart : yOk yX4_apart 2 := ⟨by decide, by decide, by decide +kernel⟩

def sh_X4_next_39  (kt54 : Int32 → Int32 → Int32 → gG → Option (Int32 × gG)) : Nat → Int32 → Int32 → Int32 → gG → Option (Int32 × gG)
  | 0, _, _, _, _ => none
  | n + 1, l1, l2, l3, G => (if l3 = (0 : Int32) then (obi (sh_X4_tick G) fun r6 G7 => sh_X4_next_39 kt54 n l1 (l2 + 1) r6 G7) else kt54 l1 l2 l3 G)
def sh_X4_next (l1 : Int32) (G : gG) : Option (Int32 × gG) := (if (sh_X4_in l1 (0 : Int32) (1 : Int32)) = (0 : Int32) then some ((-2 : Int32), G) else (obp (sh_X4_lampsOn G) fun r2 => (if r2 = (0 : Int32) then some ((-5 : Int32), G) else (obv (sh_X4_copy 72 75 (0 : Int32) (0 : Int32) G) fun G4 => (sh_X4_next_39 (fun l1 l2 l3 G => (obv (sh_X4_copy 75 72 (0 : Int32) (0 : Int32) G) fun G9 => (if l1 = (0 : Int32) then some (l2, G9) else some (l3, G9)))) FU l1 (0 : Int32) (0 : Int32) G4)))))
set_option maxRecDepth 100000 in
set_option maxHeartbeats 4000000 in
theorem lp_X4_next_39 {p : Program} {l : Launch} {e : Env} {s : State} {m : MethodId} {args : Array Value} {below : List Frame} {meth : Method} {c : Code} {D : va_G} {t : gT} {ad : Nat → Nat} (C : gC p s m args meth c cX4_next RX4 4 (some .int) (isW ad) D t ad) (hI : gI ad) {r0 : Int32} {G0 : gG} {kt54 : Int32 → Int32 → Int32 → gG → Option (Int32 × gG)} (hk54 : ∀ (l1 : Int32) (l2 : Int32) (l3 : Int32) (G : gG) , kt54 l1 l2 l3 G = some (r0, G0) → V p l e (rM 4 93) s m args below meth c (isW ad) D t ad 0 0 4 (Qi below D t ad args s r0 G0) G 54 [some (.ref (ad 71)), some (.int l1), some (.int l2), some (.int l3)] []) : ∀ (n : Nat) (l1 : Int32) (l2 : Int32) (l3 : Int32) (G : gG) , sh_X4_next_39 kt54 n l1 l2 l3 G = some (r0, G0) → V p l e (rM 4 93) s m args below meth c (isW ad) D t ad 0 0 4 (Qi below D t ad args s r0 G0) G 39 [some (.ref (ad 71)), some (.int l1), some (.int l2), some (.int l3)] [] := by
  intro n
  induction n with
  | zero => intro l1 l2 l3 G hsh; rw [sh_X4_next_39.eq_1] at hsh; cases hsh
  | succ n ih =>
    intro l1 l2 l3 G hsh
    rw [sh_X4_next_39.eq_2] at hsh
    refine v_iloadn C dX4_next_39 rfl ?_
    refine v_if_ne C 54 dX4_next_40 (by decide) (fun hc => ?_) (fun hc => ?_)
    · replace hsh := ite_n hc hsh
      exact v_wk (hk54 _ _ _ _ hsh) (wk_of (And.intro rfl (And.intro rfl (And.intro rfl (And.intro rfl trivial)))))
    · replace hsh := ite_p hc hsh
      refine v_aloadn C dX4_next_43 rfl ?_
      obtain ⟨r6, G7, e5, hsh⟩ := obi_e hsh
      refine v_callI (nP := 0) (k := 71) C (by decide) rfl rfl (c_X4_tick l D t ad hI  e5) k662 k659 k661 kp32 k5 yo_X4_tick ⟨Nat.le_of_ble_eq_true rfl, Nat.le_of_ble_eq_true rfl, rfl, rfl, Nat.zero_le _, Nat.zero_le _⟩ rfl rfl (Nat.le_of_ble_eq_true rfl) dX4_next_44 ?_
      refine v_istoren C dX4_next_47 (by decide) ?_
      refine v_iinc C dX4_next_48 rfl (v := 1) (by decide) (by decide) ?_
      refine v_goto C 39 dX4_next_51 (by decide) ?_
      exact v_wk (ih _ _ _ _ hsh) (wk_of (And.intro rfl (And.intro rfl (And.intro rfl (And.intro rfl trivial)))))
set_option maxRecDepth 100000 in
set_option maxHeartbeats 4000000 in
theorem c_X4_next (l : Launch) (D : va_G) (t : gT) (ad : Nat → Nat) (hI : gI ad) {l1 : Int32} {G : gG} {r0 : Int32} {G0 : gG} (hsh : sh_X4_next l1 G = some (r0, G0)) : Mi l D t ad yX4_next cX4_next 4 (some .int) (rM 4 93) [.ref (ad 71), .int l1] G r0 G0 := by
  refine m_go hI RX4 rfl (by decide +kernel) ⟨rfl, rfl⟩ (Nat.le_of_ble_eq_true rfl) rfl [some (.ref (ad 71)), some (.int l1), none, none] rfl (fun p e s m args below meth c C => ?_)
  unfold sh_X4_next at hsh
  refine v_iloadn C dX4_next_0 rfl ?_
  refine v_iconst C dX4_next_1 (v := 0) (by decide) ?_
  refine v_iconst C dX4_next_2 (v := 1) (by decide) ?_
  refine v_callS (nP := 3) C (c_X4_in l D t ad hI  (G := G) rfl) k576 k574 k575 k5 yo_X4_in ⟨Nat.le_of_ble_eq_true rfl, Nat.le_of_ble_eq_true rfl, rfl, rfl, Nat.zero_le _, Nat.zero_le _⟩ rfl rfl (Nat.le_of_ble_eq_true rfl) dX4_next_3 ?_
  refine v_if_ne C 12 dX4_next_6 (by decide) (fun hc => ?_) (fun hc => ?_)
  · replace hsh := ite_n hc hsh
    refine v_aloadn C dX4_next_12 rfl ?_
    obtain ⟨r2, e1, hsh⟩ := obp_e hsh
    refine v_callI (nP := 0) (k := 71) C (by decide) rfl rfl (c_X4_lampsOn l D t ad hI  e1) k622 k619 k621 kp27 k5 yo_X4_lampsOn ⟨Nat.le_of_ble_eq_true rfl, Nat.le_of_ble_eq_true rfl, rfl, rfl, Nat.zero_le _, Nat.zero_le _⟩ rfl rfl (Nat.le_of_ble_eq_true rfl) dX4_next_13 ?_
    refine v_if_ne C 22 dX4_next_16 (by decide) (fun hc => ?_) (fun hc => ?_)
    · replace hsh := ite_n hc hsh
      refine v_aloadn C dX4_next_22 rfl ?_
      refine f4_0 C dX4_next_23 ?_
      refine v_iconst C dX4_next_26 (v := 0) (by decide) ?_
      refine v_aloadn C dX4_next_27 rfl ?_
      refine f4_5 C dX4_next_28 ?_
      refine v_iconst C dX4_next_31 (v := 0) (by decide) ?_
      obtain ⟨G4, e3, hsh⟩ := obv_e hsh
      refine v_callSv (nP := 4) C (c_X4_copy l D t ad hI isA72 isA75 e3) k587 k585 k586 k5 yo_X4_copy ⟨Nat.le_of_ble_eq_true rfl, Nat.le_of_ble_eq_true rfl, rfl, rfl, Nat.zero_le _, Nat.zero_le _⟩ rfl rfl (Nat.le_of_ble_eq_true rfl) dX4_next_32 ?_
      refine v_iconst C dX4_next_35 (v := 0) (by decide) ?_
      refine v_istoren C dX4_next_36 (by decide) ?_
      refine v_iconst C dX4_next_37 (v := 0) (by decide) ?_
      refine v_istoren C dX4_next_38 (by decide) ?_
      refine v_wk (lp_X4_next_39 C hI (fun l1 l2 l3 G hsh => ?_) FU _ _ _ _ hsh) (wk_of (And.intro rfl (And.intro rfl (And.intro rfl (And.intro rfl trivial)))))
      refine v_aloadn C dX4_next_54 rfl ?_
      refine f4_5 C dX4_next_55 ?_
      refine v_iconst C dX4_next_58 (v := 0) (by decide) ?_
      refine v_aloadn C dX4_next_59 rfl ?_
      refine f4_0 C dX4_next_60 ?_
      refine v_iconst C dX4_next_63 (v := 0) (by decide) ?_
      obtain ⟨G9, e8, hsh⟩ := obv_e hsh
      refine v_callSv (nP := 4) C (c_X4_copy l D t ad hI isA75 isA72 e8) k587 k585 k586 k5 yo_X4_copy ⟨Nat.le_of_ble_eq_true rfl, Nat.le_of_ble_eq_true rfl, rfl, rfl, Nat.zero_le _, Nat.zero_le _⟩ rfl rfl (Nat.le_of_ble_eq_true rfl) dX4_next_64 ?_
      refine v_iloadn C dX4_next_67 rfl ?_
      refine v_if_ne C 75 dX4_next_68 (by decide) (fun hc => ?_) (fun hc => ?_)
      · replace hsh := ite_n hc hsh
        refine v_iloadn C dX4_next_75 rfl ?_
        obtain ⟨rfl, rfl⟩ := so_i hsh
        exact v_iret C dX4_next_76
      · replace hsh := ite_p hc hsh
        refine v_iloadn C dX4_next_71 rfl ?_
        refine v_goto C 76 dX4_next_72 (by decide) ?_
        obtain ⟨rfl, rfl⟩ := so_i hsh
        exact v_iret C dX4_next_76
    · replace hsh := ite_p hc hsh
      refine v_bipush C dX4_next_19 (v := -5) (by decide) ?_
      obtain ⟨rfl, rfl⟩ := so_i hsh
      exact v_iret C dX4_next_21
  · replace hsh := ite_p hc hsh
    refine v_bipush C dX4_next_9 (v := -2) (by decide) ?_
    obtain ⟨rfl, rfl⟩ := so_i hsh
    exact v_iret C dX4_next_11
theorem yo_X4_next : yOk yX4_next 1 := ⟨by decide, by decide, by decide +kernel⟩

def sh_X4_untilTogether_12  (kt37 : Int32 → gG → Option (Int32 × gG)) : Nat → Int32 → gG → Option (Int32 × gG)
  | 0, _, _ => none
  | n + 1, l1, G => (if (2000 : Int32) ≤ l1 then kt37 l1 G else (obp (sh_X4_isTogether G) fun r4 => (if r4 = (0 : Int32) then (obi (sh_X4_tick G) fun r6 G7 => sh_X4_untilTogether_12 kt37 n (l1 + 1) G7) else kt37 l1 G)))
def sh_X4_untilTogether_j37 (l1 : Int32) (G : gG) : Option (Int32 × gG) := (obp (sh_X4_isTogether G) fun r9 => (if r9 = (0 : Int32) then some ((-5 : Int32), G) else some (l1, G)))
def sh_X4_untilTogether (G : gG) : Option (Int32 × gG) := (obp (sh_X4_lampsOn G) fun r2 => (if r2 = (0 : Int32) then some ((-5 : Int32), G) else (sh_X4_untilTogether_12 (fun l1 G => (sh_X4_untilTogether_j37 l1 G)) FU (0 : Int32) G)))
set_option maxRecDepth 100000 in
set_option maxHeartbeats 4000000 in
theorem lp_X4_untilTogether_12 {p : Program} {l : Launch} {e : Env} {s : State} {m : MethodId} {args : Array Value} {below : List Frame} {meth : Method} {c : Code} {D : va_G} {t : gT} {ad : Nat → Nat} (C : gC p s m args meth c cX4_untilTogether RX4 2 (some .int) (isW ad) D t ad) (hI : gI ad) {r0 : Int32} {G0 : gG} {kt37 : Int32 → gG → Option (Int32 × gG)} (hk37 : ∀ (l1 : Int32) (G : gG) , kt37 l1 G = some (r0, G0) → V p l e (rM 5 108) s m args below meth c (isW ad) D t ad 0 0 2 (Qi below D t ad args s r0 G0) G 37 [some (.ref (ad 71)), some (.int l1)] []) : ∀ (n : Nat) (l1 : Int32) (G : gG) , sh_X4_untilTogether_12 kt37 n l1 G = some (r0, G0) → V p l e (rM 5 108) s m args below meth c (isW ad) D t ad 0 0 2 (Qi below D t ad args s r0 G0) G 12 [some (.ref (ad 71)), some (.int l1)] [] := by
  intro n
  induction n with
  | zero => intro l1 G hsh; rw [sh_X4_untilTogether_12.eq_1] at hsh; cases hsh
  | succ n ih =>
    intro l1 G hsh
    rw [sh_X4_untilTogether_12.eq_2] at hsh
    refine v_iloadn C dX4_untilTogether_12 rfl ?_
    refine v_sipush C dX4_untilTogether_13 (v := 2000) (by decide) ?_
    refine v_ic_ge C 37 dX4_untilTogether_16 (by decide) (fun hc => ?_) (fun hc => ?_)
    · replace hsh := ite_p hc hsh
      exact v_wk (hk37 _ _ hsh) (wk_of (And.intro rfl (And.intro rfl trivial)))
    · replace hsh := ite_n hc hsh
      refine v_aloadn C dX4_untilTogether_19 rfl ?_
      obtain ⟨r4, e3, hsh⟩ := obp_e hsh
      refine v_callI (nP := 0) (k := 71) C (by decide) rfl rfl (c_X4_isTogether l D t ad hI  e3) k761 k758 k760 kp46 k5 yo_X4_isTogether ⟨Nat.le_of_ble_eq_true rfl, Nat.le_of_ble_eq_true rfl, rfl, rfl, Nat.zero_le _, Nat.zero_le _⟩ rfl rfl (Nat.le_of_ble_eq_true rfl) dX4_untilTogether_20 ?_
      refine v_if_ne C 37 dX4_untilTogether_23 (by decide) (fun hc => ?_) (fun hc => ?_)
      · replace hsh := ite_n hc hsh
        exact v_wk (hk37 _ _ hsh) (wk_of (And.intro rfl (And.intro rfl trivial)))
      · replace hsh := ite_p hc hsh
        refine v_aloadn C dX4_untilTogether_26 rfl ?_
        obtain ⟨r6, G7, e5, hsh⟩ := obi_e hsh
        refine v_callI (nP := 0) (k := 71) C (by decide) rfl rfl (c_X4_tick l D t ad hI  e5) k662 k659 k661 kp32 k5 yo_X4_tick ⟨Nat.le_of_ble_eq_true rfl, Nat.le_of_ble_eq_true rfl, rfl, rfl, Nat.zero_le _, Nat.zero_le _⟩ rfl rfl (Nat.le_of_ble_eq_true rfl) dX4_untilTogether_27 ?_
        refine v_pop C dX4_untilTogether_30 rfl ?_
        refine v_iinc C dX4_untilTogether_31 rfl (v := 1) (by decide) (by decide) ?_
        refine v_goto C 12 dX4_untilTogether_34 (by decide) ?_
        exact v_wk (ih _ _ hsh) (wk_of (And.intro rfl (And.intro rfl trivial)))
set_option maxRecDepth 100000 in
set_option maxHeartbeats 4000000 in
theorem c_X4_untilTogether (l : Launch) (D : va_G) (t : gT) (ad : Nat → Nat) (hI : gI ad) {G : gG} {r0 : Int32} {G0 : gG} (hsh : sh_X4_untilTogether G = some (r0, G0)) : Mi l D t ad yX4_untilTogether cX4_untilTogether 2 (some .int) (rM 5 108) [.ref (ad 71)] G r0 G0 := by
  refine m_go hI RX4 rfl (by decide +kernel) ⟨rfl, rfl⟩ (Nat.le_of_ble_eq_true rfl) rfl [some (.ref (ad 71)), none] rfl (fun p e s m args below meth c C => ?_)
  unfold sh_X4_untilTogether at hsh
  have hj37 : ∀ (l1 : Int32) (G : gG) , sh_X4_untilTogether_j37 l1 G = some (r0, G0) → V p l e (rM 5 108) s m args below meth c (isW ad) D t ad 0 0 2 (Qi below D t ad args s r0 G0) G 37 [some (.ref (ad 71)), some (.int l1)] [] := by
    intro l1 G hsh
    unfold sh_X4_untilTogether_j37 at hsh
    refine v_aloadn C dX4_untilTogether_37 rfl ?_
    obtain ⟨r9, e8, hsh⟩ := obp_e hsh
    refine v_callI (nP := 0) (k := 71) C (by decide) rfl rfl (c_X4_isTogether l D t ad hI  e8) k761 k758 k760 kp46 k5 yo_X4_isTogether ⟨Nat.le_of_ble_eq_true rfl, Nat.le_of_ble_eq_true rfl, rfl, rfl, Nat.zero_le _, Nat.zero_le _⟩ rfl rfl (Nat.le_of_ble_eq_true rfl) dX4_untilTogether_38 ?_
    refine v_if_eq C 48 dX4_untilTogether_41 (by decide) (fun hc => ?_) (fun hc => ?_)
    · replace hsh := ite_p hc hsh
      refine v_bipush C dX4_untilTogether_48 (v := -5) (by decide) ?_
      obtain ⟨rfl, rfl⟩ := so_i hsh
      exact v_iret C dX4_untilTogether_50
    · replace hsh := ite_n hc hsh
      refine v_iloadn C dX4_untilTogether_44 rfl ?_
      refine v_goto C 50 dX4_untilTogether_45 (by decide) ?_
      obtain ⟨rfl, rfl⟩ := so_i hsh
      exact v_iret C dX4_untilTogether_50
  refine v_aloadn C dX4_untilTogether_0 rfl ?_
  obtain ⟨r2, e1, hsh⟩ := obp_e hsh
  refine v_callI (nP := 0) (k := 71) C (by decide) rfl rfl (c_X4_lampsOn l D t ad hI  e1) k622 k619 k621 kp27 k5 yo_X4_lampsOn ⟨Nat.le_of_ble_eq_true rfl, Nat.le_of_ble_eq_true rfl, rfl, rfl, Nat.zero_le _, Nat.zero_le _⟩ rfl rfl (Nat.le_of_ble_eq_true rfl) dX4_untilTogether_1 ?_
  refine v_if_ne C 10 dX4_untilTogether_4 (by decide) (fun hc => ?_) (fun hc => ?_)
  · replace hsh := ite_n hc hsh
    refine v_iconst C dX4_untilTogether_10 (v := 0) (by decide) ?_
    refine v_istoren C dX4_untilTogether_11 (by decide) ?_
    refine v_wk (lp_X4_untilTogether_12 C hI (fun l1 G hsh => ?_) FU _ _ hsh) (wk_of (And.intro rfl (And.intro rfl trivial)))
    exact v_wk (hj37 _ _ hsh) (wk_of (And.intro rfl (And.intro rfl trivial)))
  · replace hsh := ite_p hc hsh
    refine v_bipush C dX4_untilTogether_7 (v := -5) (by decide) ?_
    obtain ⟨rfl, rfl⟩ := so_i hsh
    exact v_iret C dX4_untilTogether_9
theorem yo_X4_untilTogether : yOk yX4_untilTogether 0 := ⟨by decide, by decide, by decide +kernel⟩

def sh_X4_togetherIn (G : gG) : Option (Int32 × gG) := (obv (sh_X4_copy 72 75 (0 : Int32) (0 : Int32) G) fun G2 => (obi (sh_X4_untilTogether G2) fun r4 G5 => (obv (sh_X4_copy 75 72 (0 : Int32) (0 : Int32) G5) fun G7 => some (r4, G7))))
set_option maxRecDepth 100000 in
set_option maxHeartbeats 4000000 in
theorem c_X4_togetherIn (l : Launch) (D : va_G) (t : gT) (ad : Nat → Nat) (hI : gI ad) {G : gG} {r0 : Int32} {G0 : gG} (hsh : sh_X4_togetherIn G = some (r0, G0)) : Mi l D t ad yX4_togetherIn cX4_togetherIn 2 (some .int) (rM 6 129) [.ref (ad 71)] G r0 G0 := by
  refine m_go hI RX4 rfl (by decide +kernel) ⟨rfl, rfl⟩ (Nat.le_of_ble_eq_true rfl) rfl [some (.ref (ad 71)), none] rfl (fun p e s m args below meth c C => ?_)
  unfold sh_X4_togetherIn at hsh
  refine v_aloadn C dX4_togetherIn_0 rfl ?_
  refine f4_0 C dX4_togetherIn_1 ?_
  refine v_iconst C dX4_togetherIn_4 (v := 0) (by decide) ?_
  refine v_aloadn C dX4_togetherIn_5 rfl ?_
  refine f4_5 C dX4_togetherIn_6 ?_
  refine v_iconst C dX4_togetherIn_9 (v := 0) (by decide) ?_
  obtain ⟨G2, e1, hsh⟩ := obv_e hsh
  refine v_callSv (nP := 4) C (c_X4_copy l D t ad hI isA72 isA75 e1) k587 k585 k586 k5 yo_X4_copy ⟨Nat.le_of_ble_eq_true rfl, Nat.le_of_ble_eq_true rfl, rfl, rfl, Nat.zero_le _, Nat.zero_le _⟩ rfl rfl (Nat.le_of_ble_eq_true rfl) dX4_togetherIn_10 ?_
  refine v_aloadn C dX4_togetherIn_13 rfl ?_
  obtain ⟨r4, G5, e3, hsh⟩ := obi_e hsh
  refine v_callI (nP := 0) (k := 71) C (by decide) rfl rfl (c_X4_untilTogether l D t ad hI  e3) k757 k754 k756 kp45 k5 yo_X4_untilTogether ⟨Nat.le_of_ble_eq_true rfl, Nat.le_of_ble_eq_true rfl, rfl, rfl, Nat.zero_le _, Nat.zero_le _⟩ rfl rfl (Nat.le_of_ble_eq_true rfl) dX4_togetherIn_14 ?_
  refine v_istoren C dX4_togetherIn_17 (by decide) ?_
  refine v_aloadn C dX4_togetherIn_18 rfl ?_
  refine f4_5 C dX4_togetherIn_19 ?_
  refine v_iconst C dX4_togetherIn_22 (v := 0) (by decide) ?_
  refine v_aloadn C dX4_togetherIn_23 rfl ?_
  refine f4_0 C dX4_togetherIn_24 ?_
  refine v_iconst C dX4_togetherIn_27 (v := 0) (by decide) ?_
  obtain ⟨G7, e6, hsh⟩ := obv_e hsh
  refine v_callSv (nP := 4) C (c_X4_copy l D t ad hI isA75 isA72 e6) k587 k585 k586 k5 yo_X4_copy ⟨Nat.le_of_ble_eq_true rfl, Nat.le_of_ble_eq_true rfl, rfl, rfl, Nat.zero_le _, Nat.zero_le _⟩ rfl rfl (Nat.le_of_ble_eq_true rfl) dX4_togetherIn_28 ?_
  refine v_iloadn C dX4_togetherIn_31 rfl ?_
  obtain ⟨rfl, rfl⟩ := so_i hsh
  exact v_iret C dX4_togetherIn_32
theorem yo_X4_togetherIn : yOk yX4_togetherIn 0 := ⟨by decide, by decide, by decide +kernel⟩

def sh_X4_areRatesUnlike_j42 (G : gG) (kt78 : Int32 → Int32 → Option (Int32)) (self8 : Int32 → Int32 → Int32 → Option (Int32)) (l2 : Int32) (l3 : Int32) (x0 : Int32) : Option (Int32) := (obp (sh_X4_isOn l3 G) fun r4 => (if r4 = (0 : Int32) then self8 x0 l2 (l3 + 1) else (obp (sh_X4_of l3 (2 : Int32) G) fun r6 => (if r6 ≤ l2 then self8 x0 l2 (l3 + 1) else (obp (sh_X4_of l3 (2 : Int32) G) fun r8 => self8 x0 r8 (l3 + 1))))))
def sh_X4_areRatesUnlike_j41 (G : gG) (kt78 : Int32 → Int32 → Option (Int32)) (self8 : Int32 → Int32 → Int32 → Option (Int32)) (l1 : Int32) (l2 : Int32) (l3 : Int32) : Option (Int32) := (sh_X4_areRatesUnlike_j42 G kt78 self8 l2 l3 l1)
def sh_X4_areRatesUnlike_8 (G : gG) (kt78 : Int32 → Int32 → Option (Int32)) : Nat → Int32 → Int32 → Int32 → Option (Int32)
  | 0, _, _, _ => none
  | n + 1, l1, l2, l3 => (if (16 : Int32) ≤ l3 then kt78 l1 l2 else (obp (sh_X4_isOn l3 G) fun r2 => (if r2 = (0 : Int32) then (sh_X4_areRatesUnlike_j41 G kt78 (sh_X4_areRatesUnlike_8 G kt78 n) l1 l2 l3) else (obp (sh_X4_of l3 (2 : Int32) G) fun r10 => (if l1 ≤ r10 then (sh_X4_areRatesUnlike_j41 G kt78 (sh_X4_areRatesUnlike_8 G kt78 n) l1 l2 l3) else (obp (sh_X4_of l3 (2 : Int32) G) fun r12 => (sh_X4_areRatesUnlike_j42 G kt78 (sh_X4_areRatesUnlike_8 G kt78 n) l2 l3 r12)))))))
def sh_X4_areRatesUnlike (G : gG) : Option (Int32) := (sh_X4_areRatesUnlike_8 G (fun l1 l2 => (if l2 ≤ l1 then some (0 : Int32) else some (1 : Int32))) FU (150 : Int32) (0 : Int32) (0 : Int32))
set_option maxRecDepth 100000 in
set_option maxHeartbeats 4000000 in
theorem lp_X4_areRatesUnlike_8 {p : Program} {l : Launch} {e : Env} {s : State} {m : MethodId} {args : Array Value} {below : List Frame} {meth : Method} {c : Code} {D : va_G} {t : gT} {ad : Nat → Nat} (C : gC p s m args meth c cX4_areRatesUnlike RX4 4 (some .boolean) (isW ad) D t ad) (hI : gI ad) {G : gG} {r0 : Int32} {kt78 : Int32 → Int32 → Option (Int32)} (hk78 : ∀ (l1 : Int32) (l2 : Int32) , kt78 l1 l2 = some r0 → V p l e (rM 2 43) s m args below meth c (isW ad) D t ad 0 0 4 (Qi below D t ad args s r0 G) G 78 [none, some (.int l1), some (.int l2), none] []) : ∀ (n : Nat) (l1 : Int32) (l2 : Int32) (l3 : Int32) , sh_X4_areRatesUnlike_8 G kt78 n l1 l2 l3 = some r0 → V p l e (rM 2 43) s m args below meth c (isW ad) D t ad 0 0 4 (Qi below D t ad args s r0 G) G 8 [some (.ref (ad 71)), some (.int l1), some (.int l2), some (.int l3)] [] := by
  intro n
  induction n with
  | zero => intro l1 l2 l3 hsh; rw [sh_X4_areRatesUnlike_8.eq_1] at hsh; cases hsh
  | succ n ih =>
    intro l1 l2 l3 hsh
    rw [sh_X4_areRatesUnlike_8.eq_2] at hsh
    have hj42 : ∀ (l2 : Int32) (l3 : Int32) (x0 : Int32) , sh_X4_areRatesUnlike_j42 G kt78 (sh_X4_areRatesUnlike_8 G kt78 n) l2 l3 x0 = some r0 → V p l e (rM 2 43) s m args below meth c (isW ad) D t ad 0 0 4 (Qi below D t ad args s r0 G) G 42 [some (.ref (ad 71)), none, some (.int l2), some (.int l3)] [.int x0] := by
      intro l2 l3 x0 hsh
      unfold sh_X4_areRatesUnlike_j42 at hsh
      refine v_istoren C dX4_areRatesUnlike_42 (by decide) ?_
      refine v_aloadn C dX4_areRatesUnlike_43 rfl ?_
      refine v_iloadn C dX4_areRatesUnlike_44 rfl ?_
      obtain ⟨r4, e3, hsh⟩ := obp_e hsh
      refine v_callI (nP := 1) (k := 71) C (by decide) rfl rfl (c_X4_isOn l D t ad hI  e3) k618 k615 k617 kp26 k5 yo_X4_isOn ⟨Nat.le_of_ble_eq_true rfl, Nat.le_of_ble_eq_true rfl, rfl, rfl, Nat.zero_le _, Nat.zero_le _⟩ rfl rfl (Nat.le_of_ble_eq_true rfl) dX4_areRatesUnlike_45 ?_
      refine v_if_eq C 70 dX4_areRatesUnlike_48 (by decide) (fun hc => ?_) (fun hc => ?_)
      · replace hsh := ite_p hc hsh
        refine v_iloadn C dX4_areRatesUnlike_70 rfl ?_
        refine v_istoren C dX4_areRatesUnlike_71 (by decide) ?_
        refine v_iinc C dX4_areRatesUnlike_72 rfl (v := 1) (by decide) (by decide) ?_
        refine v_goto C 8 dX4_areRatesUnlike_75 (by decide) ?_
        exact v_wk (ih _ _ _ hsh) (wk_of (And.intro rfl (And.intro rfl (And.intro rfl (And.intro rfl trivial)))))
      · replace hsh := ite_n hc hsh
        refine v_aloadn C dX4_areRatesUnlike_51 rfl ?_
        refine v_iloadn C dX4_areRatesUnlike_52 rfl ?_
        refine v_iconst C dX4_areRatesUnlike_53 (v := 2) (by decide) ?_
        obtain ⟨r6, e5, hsh⟩ := obp_e hsh
        refine v_callI (nP := 2) (k := 71) C (by decide) rfl rfl (c_X4_of l D t ad hI  e5) k580 k577 k579 kp20 k5 yo_X4_of ⟨Nat.le_of_ble_eq_true rfl, Nat.le_of_ble_eq_true rfl, rfl, rfl, Nat.zero_le _, Nat.zero_le _⟩ rfl rfl (Nat.le_of_ble_eq_true rfl) dX4_areRatesUnlike_54 ?_
        refine v_iloadn C dX4_areRatesUnlike_57 rfl ?_
        refine v_ic_le C 70 dX4_areRatesUnlike_58 (by decide) (fun hc => ?_) (fun hc => ?_)
        · replace hsh := ite_p hc hsh
          refine v_iloadn C dX4_areRatesUnlike_70 rfl ?_
          refine v_istoren C dX4_areRatesUnlike_71 (by decide) ?_
          refine v_iinc C dX4_areRatesUnlike_72 rfl (v := 1) (by decide) (by decide) ?_
          refine v_goto C 8 dX4_areRatesUnlike_75 (by decide) ?_
          exact v_wk (ih _ _ _ hsh) (wk_of (And.intro rfl (And.intro rfl (And.intro rfl (And.intro rfl trivial)))))
        · replace hsh := ite_n hc hsh
          refine v_aloadn C dX4_areRatesUnlike_61 rfl ?_
          refine v_iloadn C dX4_areRatesUnlike_62 rfl ?_
          refine v_iconst C dX4_areRatesUnlike_63 (v := 2) (by decide) ?_
          obtain ⟨r8, e7, hsh⟩ := obp_e hsh
          refine v_callI (nP := 2) (k := 71) C (by decide) rfl rfl (c_X4_of l D t ad hI  e7) k580 k577 k579 kp20 k5 yo_X4_of ⟨Nat.le_of_ble_eq_true rfl, Nat.le_of_ble_eq_true rfl, rfl, rfl, Nat.zero_le _, Nat.zero_le _⟩ rfl rfl (Nat.le_of_ble_eq_true rfl) dX4_areRatesUnlike_64 ?_
          refine v_goto C 71 dX4_areRatesUnlike_67 (by decide) ?_
          refine v_istoren C dX4_areRatesUnlike_71 (by decide) ?_
          refine v_iinc C dX4_areRatesUnlike_72 rfl (v := 1) (by decide) (by decide) ?_
          refine v_goto C 8 dX4_areRatesUnlike_75 (by decide) ?_
          exact v_wk (ih _ _ _ hsh) (wk_of (And.intro rfl (And.intro rfl (And.intro rfl (And.intro rfl trivial)))))
    have hj41 : ∀ (l1 : Int32) (l2 : Int32) (l3 : Int32) , sh_X4_areRatesUnlike_j41 G kt78 (sh_X4_areRatesUnlike_8 G kt78 n) l1 l2 l3 = some r0 → V p l e (rM 2 43) s m args below meth c (isW ad) D t ad 0 0 4 (Qi below D t ad args s r0 G) G 41 [some (.ref (ad 71)), some (.int l1), some (.int l2), some (.int l3)] [] := by
      intro l1 l2 l3 hsh
      unfold sh_X4_areRatesUnlike_j41 at hsh
      refine v_iloadn C dX4_areRatesUnlike_41 rfl ?_
      exact v_wk (hj42 _ _ _ hsh) (wk_of (And.intro rfl (And.intro rfl (And.intro rfl trivial))))
    refine v_iloadn C dX4_areRatesUnlike_8 rfl ?_
    refine v_bipush C dX4_areRatesUnlike_9 (v := 16) (by decide) ?_
    refine v_ic_ge C 78 dX4_areRatesUnlike_11 (by decide) (fun hc => ?_) (fun hc => ?_)
    · replace hsh := ite_p hc hsh
      exact v_wk (hk78 _ _ hsh) (wk_of (And.intro rfl (And.intro rfl trivial)))
    · replace hsh := ite_n hc hsh
      refine v_aloadn C dX4_areRatesUnlike_14 rfl ?_
      refine v_iloadn C dX4_areRatesUnlike_15 rfl ?_
      obtain ⟨r2, e1, hsh⟩ := obp_e hsh
      refine v_callI (nP := 1) (k := 71) C (by decide) rfl rfl (c_X4_isOn l D t ad hI  e1) k618 k615 k617 kp26 k5 yo_X4_isOn ⟨Nat.le_of_ble_eq_true rfl, Nat.le_of_ble_eq_true rfl, rfl, rfl, Nat.zero_le _, Nat.zero_le _⟩ rfl rfl (Nat.le_of_ble_eq_true rfl) dX4_areRatesUnlike_16 ?_
      refine v_if_eq C 41 dX4_areRatesUnlike_19 (by decide) (fun hc => ?_) (fun hc => ?_)
      · replace hsh := ite_p hc hsh
        exact v_wk (hj41 _ _ _ hsh) (wk_of (And.intro rfl (And.intro rfl (And.intro rfl (And.intro rfl trivial)))))
      · replace hsh := ite_n hc hsh
        refine v_aloadn C dX4_areRatesUnlike_22 rfl ?_
        refine v_iloadn C dX4_areRatesUnlike_23 rfl ?_
        refine v_iconst C dX4_areRatesUnlike_24 (v := 2) (by decide) ?_
        obtain ⟨r10, e9, hsh⟩ := obp_e hsh
        refine v_callI (nP := 2) (k := 71) C (by decide) rfl rfl (c_X4_of l D t ad hI  e9) k580 k577 k579 kp20 k5 yo_X4_of ⟨Nat.le_of_ble_eq_true rfl, Nat.le_of_ble_eq_true rfl, rfl, rfl, Nat.zero_le _, Nat.zero_le _⟩ rfl rfl (Nat.le_of_ble_eq_true rfl) dX4_areRatesUnlike_25 ?_
        refine v_iloadn C dX4_areRatesUnlike_28 rfl ?_
        refine v_ic_ge C 41 dX4_areRatesUnlike_29 (by decide) (fun hc => ?_) (fun hc => ?_)
        · replace hsh := ite_p hc hsh
          exact v_wk (hj41 _ _ _ hsh) (wk_of (And.intro rfl (And.intro rfl (And.intro rfl (And.intro rfl trivial)))))
        · replace hsh := ite_n hc hsh
          refine v_aloadn C dX4_areRatesUnlike_32 rfl ?_
          refine v_iloadn C dX4_areRatesUnlike_33 rfl ?_
          refine v_iconst C dX4_areRatesUnlike_34 (v := 2) (by decide) ?_
          obtain ⟨r12, e11, hsh⟩ := obp_e hsh
          refine v_callI (nP := 2) (k := 71) C (by decide) rfl rfl (c_X4_of l D t ad hI  e11) k580 k577 k579 kp20 k5 yo_X4_of ⟨Nat.le_of_ble_eq_true rfl, Nat.le_of_ble_eq_true rfl, rfl, rfl, Nat.zero_le _, Nat.zero_le _⟩ rfl rfl (Nat.le_of_ble_eq_true rfl) dX4_areRatesUnlike_35 ?_
          refine v_goto C 42 dX4_areRatesUnlike_38 (by decide) ?_
          exact v_wk (hj42 _ _ _ hsh) (wk_of (And.intro rfl (And.intro rfl (And.intro rfl trivial))))
set_option maxRecDepth 100000 in
set_option maxHeartbeats 4000000 in
theorem c_X4_areRatesUnlike (l : Launch) (D : va_G) (t : gT) (ad : Nat → Nat) (hI : gI ad) {G : gG} {r0 : Int32} (hsh : sh_X4_areRatesUnlike G = some r0) : Mi l D t ad yX4_areRatesUnlike cX4_areRatesUnlike 4 (some .boolean) (rM 2 43) [.ref (ad 71)] G r0 G := by
  refine m_go hI RX4 rfl (by decide +kernel) ⟨rfl, rfl⟩ (Nat.le_of_ble_eq_true rfl) rfl [some (.ref (ad 71)), none, none, none] rfl (fun p e s m args below meth c C => ?_)
  unfold sh_X4_areRatesUnlike at hsh
  refine v_sipush C dX4_areRatesUnlike_0 (v := 150) (by decide) ?_
  refine v_istoren C dX4_areRatesUnlike_3 (by decide) ?_
  refine v_iconst C dX4_areRatesUnlike_4 (v := 0) (by decide) ?_
  refine v_istoren C dX4_areRatesUnlike_5 (by decide) ?_
  refine v_iconst C dX4_areRatesUnlike_6 (v := 0) (by decide) ?_
  refine v_istoren C dX4_areRatesUnlike_7 (by decide) ?_
  refine v_wk (lp_X4_areRatesUnlike_8 C hI (fun l1 l2 hsh => ?_) FU _ _ _ hsh) (wk_of (And.intro rfl (And.intro rfl (And.intro rfl (And.intro rfl trivial)))))
  refine v_iloadn C dX4_areRatesUnlike_78 rfl ?_
  refine v_iloadn C dX4_areRatesUnlike_79 rfl ?_
  refine v_ic_le C 87 dX4_areRatesUnlike_80 (by decide) (fun hc => ?_) (fun hc => ?_)
  · replace hsh := ite_p hc hsh
    refine v_iconst C dX4_areRatesUnlike_87 (v := 0) (by decide) ?_
    obtain rfl := so_1 hsh
    exact v_zret C (Or.inl rfl) dX4_areRatesUnlike_88
  · replace hsh := ite_n hc hsh
    refine v_iconst C dX4_areRatesUnlike_83 (v := 1) (by decide) ?_
    refine v_goto C 88 dX4_areRatesUnlike_84 (by decide) ?_
    obtain rfl := so_1 hsh
    exact v_zret C (Or.inr rfl) dX4_areRatesUnlike_88
theorem yo_X4_areRatesUnlike : yOk yX4_areRatesUnlike 0 := ⟨by decide, by decide, by decide +kernel⟩

def sh_X4_reason (G : gG) : Option (Int32) := (obp (sh_X4_lampsOn G) fun r2 => (if r2 = (0 : Int32) then some (1 : Int32) else (obp (sh_X4_isTogether G) fun r4 => (if r4 = (0 : Int32) then (obp (sh_X4_pieces G) fun r6 => (if r6 ≤ (1 : Int32) then (obp (sh_X4_areRatesUnlike G) fun r8 => (if r8 = (0 : Int32) then (if (G 72 ((6 : Int32)).toNatClampNeg) = (0 : Int32) then some (4 : Int32) else some (0 : Int32)) else some (3 : Int32))) else some (2 : Int32))) else some (0 : Int32)))))
set_option maxRecDepth 100000 in
set_option maxHeartbeats 4000000 in
theorem c_X4_reason (l : Launch) (D : va_G) (t : gT) (ad : Nat → Nat) (hI : gI ad) {G : gG} {r0 : Int32} (hsh : sh_X4_reason G = some r0) : Mi l D t ad yX4_reason cX4_reason 1 (some .int) (rM 5 113) [.ref (ad 71)] G r0 G := by
  refine m_go hI RX4 rfl (by decide +kernel) ⟨rfl, rfl⟩ (Nat.le_of_ble_eq_true rfl) rfl [some (.ref (ad 71))] rfl (fun p e s m args below meth c C => ?_)
  unfold sh_X4_reason at hsh
  refine v_aloadn C dX4_reason_0 rfl ?_
  obtain ⟨r2, e1, hsh⟩ := obp_e hsh
  refine v_callI (nP := 0) (k := 71) C (by decide) rfl rfl (c_X4_lampsOn l D t ad hI  e1) k622 k619 k621 kp27 k5 yo_X4_lampsOn ⟨Nat.le_of_ble_eq_true rfl, Nat.le_of_ble_eq_true rfl, rfl, rfl, Nat.zero_le _, Nat.zero_le _⟩ rfl rfl (Nat.le_of_ble_eq_true rfl) dX4_reason_1 ?_
  refine v_if_ne C 9 dX4_reason_4 (by decide) (fun hc => ?_) (fun hc => ?_)
  · replace hsh := ite_n hc hsh
    refine v_aloadn C dX4_reason_9 rfl ?_
    obtain ⟨r4, e3, hsh⟩ := obp_e hsh
    refine v_callI (nP := 0) (k := 71) C (by decide) rfl rfl (c_X4_isTogether l D t ad hI  e3) k761 k758 k760 kp46 k5 yo_X4_isTogether ⟨Nat.le_of_ble_eq_true rfl, Nat.le_of_ble_eq_true rfl, rfl, rfl, Nat.zero_le _, Nat.zero_le _⟩ rfl rfl (Nat.le_of_ble_eq_true rfl) dX4_reason_10 ?_
    refine v_if_eq C 18 dX4_reason_13 (by decide) (fun hc => ?_) (fun hc => ?_)
    · replace hsh := ite_p hc hsh
      refine v_aloadn C dX4_reason_18 rfl ?_
      obtain ⟨r6, e5, hsh⟩ := obp_e hsh
      refine v_callI (nP := 0) (k := 71) C (by decide) rfl rfl (c_X4_pieces l D t ad hI  e5) k773 k770 k772 kp48 k5 yo_X4_pieces ⟨Nat.le_of_ble_eq_true rfl, Nat.le_of_ble_eq_true rfl, rfl, rfl, Nat.zero_le _, Nat.zero_le _⟩ rfl rfl (Nat.le_of_ble_eq_true rfl) dX4_reason_19 ?_
      refine v_iconst C dX4_reason_22 (v := 1) (by decide) ?_
      refine v_ic_le C 30 dX4_reason_23 (by decide) (fun hc => ?_) (fun hc => ?_)
      · replace hsh := ite_p hc hsh
        refine v_aloadn C dX4_reason_30 rfl ?_
        obtain ⟨r8, e7, hsh⟩ := obp_e hsh
        refine v_callI (nP := 0) (k := 71) C (by decide) rfl rfl (c_X4_areRatesUnlike l D t ad hI  e7) k777 k774 k776 kp49 k5 yo_X4_areRatesUnlike ⟨Nat.le_of_ble_eq_true rfl, Nat.le_of_ble_eq_true rfl, rfl, rfl, Nat.zero_le _, Nat.zero_le _⟩ rfl rfl (Nat.le_of_ble_eq_true rfl) dX4_reason_31 ?_
        refine v_if_eq C 41 dX4_reason_34 (by decide) (fun hc => ?_) (fun hc => ?_)
        · replace hsh := ite_p hc hsh
          refine v_aloadn C dX4_reason_41 rfl ?_
          refine f4_0 C dX4_reason_42 ?_
          refine v_bipush C dX4_reason_45 (v := 6) (by decide) ?_
          refine v_ld C (k := 72) (by decide) rfl (gin_in (by decide)) dX4_reason_47 ?_
          refine v_if_ne C 55 dX4_reason_48 (by decide) (fun hc => ?_) (fun hc => ?_)
          · replace hsh := ite_n hc hsh
            refine v_iconst C dX4_reason_55 (v := 0) (by decide) ?_
            obtain rfl := so_1 hsh
            exact v_iret C dX4_reason_56
          · replace hsh := ite_p hc hsh
            refine v_iconst C dX4_reason_51 (v := 4) (by decide) ?_
            refine v_goto C 56 dX4_reason_52 (by decide) ?_
            obtain rfl := so_1 hsh
            exact v_iret C dX4_reason_56
        · replace hsh := ite_n hc hsh
          refine v_iconst C dX4_reason_37 (v := 3) (by decide) ?_
          refine v_goto C 56 dX4_reason_38 (by decide) ?_
          obtain rfl := so_1 hsh
          exact v_iret C dX4_reason_56
      · replace hsh := ite_n hc hsh
        refine v_iconst C dX4_reason_26 (v := 2) (by decide) ?_
        refine v_goto C 56 dX4_reason_27 (by decide) ?_
        obtain rfl := so_1 hsh
        exact v_iret C dX4_reason_56
    · replace hsh := ite_n hc hsh
      refine v_iconst C dX4_reason_16 (v := 0) (by decide) ?_
      obtain rfl := so_1 hsh
      exact v_iret C dX4_reason_17
  · replace hsh := ite_p hc hsh
    refine v_iconst C dX4_reason_7 (v := 1) (by decide) ?_
    obtain rfl := so_1 hsh
    exact v_iret C dX4_reason_8
theorem yo_X4_reason : yOk yX4_reason 0 := ⟨by decide, by decide, by decide +kernel⟩

def sh_X4_spread (G : gG) : Option (Int32) := (obp (sh_X4_greatestDistance G) fun r2 => some r2)
set_option maxRecDepth 100000 in
set_option maxHeartbeats 4000000 in
theorem c_X4_spread (l : Launch) (D : va_G) (t : gT) (ad : Nat → Nat) (hI : gI ad) {G : gG} {r0 : Int32} (hsh : sh_X4_spread G = some r0) : Mi l D t ad yX4_spread cX4_spread 1 (some .int) (rM 4 88) [.ref (ad 71)] G r0 G := by
  refine m_go hI RX4 rfl (by decide +kernel) ⟨rfl, rfl⟩ (Nat.le_of_ble_eq_true rfl) rfl [some (.ref (ad 71))] rfl (fun p e s m args below meth c C => ?_)
  unfold sh_X4_spread at hsh
  refine v_aloadn C dX4_spread_0 rfl ?_
  obtain ⟨r2, e1, hsh⟩ := obp_e hsh
  refine v_callI (nP := 0) (k := 71) C (by decide) rfl rfl (c_X4_greatestDistance l D t ad hI  e1) k765 k762 k764 kp47 k5 yo_X4_greatestDistance ⟨Nat.le_of_ble_eq_true rfl, Nat.le_of_ble_eq_true rfl, rfl, rfl, Nat.zero_le _, Nat.zero_le _⟩ rfl rfl (Nat.le_of_ble_eq_true rfl) dX4_spread_1 ?_
  obtain rfl := so_1 hsh
  exact v_iret C dX4_spread_4
theorem yo_X4_spread : yOk yX4_spread 0 := ⟨by decide, by decide, by decide +kernel⟩

def sh_X4_ifLinked_j61 (x1 : Int32) (x2 : Int32) (x3 : Int32) (G : gG) : Option (Int32 × gG) := (obv (sh_X4_connect x1 x2 x3 G) fun G10 => (obi (sh_X4_untilTogether G10) fun r12 G13 => (obv (sh_X4_copy 75 72 (0 : Int32) (0 : Int32) G13) fun G15 => some (r12, G15))))
def sh_X4_ifLinked (l1 : Int32) (l2 : Int32) (G : gG) : Option (Int32 × gG) := (obp (sh_X4_isLamp l1 G) fun r2 => (if r2 = (0 : Int32) then some ((-1 : Int32), G) else (obp (sh_X4_isLamp l2 G) fun r4 => (if r4 = (0 : Int32) then some ((-1 : Int32), G) else (if l1 = l2 then some ((-2 : Int32), G) else (obv (sh_X4_copy 72 75 (0 : Int32) (0 : Int32) G) fun G6 => (obp (sh_X4_of l1 (8 : Int32) G6) fun r8 => (if (sh_X4_has r8 l2) = (0 : Int32) then (sh_X4_ifLinked_j61 l1 l2 (1 : Int32) G6) else (sh_X4_ifLinked_j61 l1 l2 (0 : Int32) G6)))))))))
set_option maxRecDepth 100000 in
set_option maxHeartbeats 4000000 in
theorem c_X4_ifLinked (l : Launch) (D : va_G) (t : gT) (ad : Nat → Nat) (hI : gI ad) {l1 : Int32} {l2 : Int32} {G : gG} {r0 : Int32} {G0 : gG} (hsh : sh_X4_ifLinked l1 l2 G = some (r0, G0)) : Mi l D t ad yX4_ifLinked cX4_ifLinked 4 (some .int) (rM 6 129) [.ref (ad 71), .int l1, .int l2] G r0 G0 := by
  refine m_go hI RX4 rfl (by decide +kernel) ⟨rfl, rfl⟩ (Nat.le_of_ble_eq_true rfl) rfl [some (.ref (ad 71)), some (.int l1), some (.int l2), none] rfl (fun p e s m args below meth c C => ?_)
  unfold sh_X4_ifLinked at hsh
  have hj61 : ∀ (x1 : Int32) (x2 : Int32) (x3 : Int32) (G : gG) , sh_X4_ifLinked_j61 x1 x2 x3 G = some (r0, G0) → V p l e (rM 6 129) s m args below meth c (isW ad) D t ad 0 0 4 (Qi below D t ad args s r0 G0) G 61 [some (.ref (ad 71)), none, none, none] [.int x3, .int x2, .int x1, .ref (ad 71)] := by
    intro x1 x2 x3 G hsh
    unfold sh_X4_ifLinked_j61 at hsh
    obtain ⟨G10, e9, hsh⟩ := obv_e hsh
    refine v_callV (nP := 3) (k := 71) C (by decide) rfl rfl (c_X4_connect l D t ad hI  e9) k637 k634 k636 kp29 k5 yo_X4_connect ⟨Nat.le_of_ble_eq_true rfl, Nat.le_of_ble_eq_true rfl, rfl, rfl, Nat.zero_le _, Nat.zero_le _⟩ rfl rfl (Nat.le_of_ble_eq_true rfl) dX4_ifLinked_61 ?_
    refine v_aloadn C dX4_ifLinked_64 rfl ?_
    obtain ⟨r12, G13, e11, hsh⟩ := obi_e hsh
    refine v_callI (nP := 0) (k := 71) C (by decide) rfl rfl (c_X4_untilTogether l D t ad hI  e11) k757 k754 k756 kp45 k5 yo_X4_untilTogether ⟨Nat.le_of_ble_eq_true rfl, Nat.le_of_ble_eq_true rfl, rfl, rfl, Nat.zero_le _, Nat.zero_le _⟩ rfl rfl (Nat.le_of_ble_eq_true rfl) dX4_ifLinked_65 ?_
    refine v_istoren C dX4_ifLinked_68 (by decide) ?_
    refine v_aloadn C dX4_ifLinked_69 rfl ?_
    refine f4_5 C dX4_ifLinked_70 ?_
    refine v_iconst C dX4_ifLinked_73 (v := 0) (by decide) ?_
    refine v_aloadn C dX4_ifLinked_74 rfl ?_
    refine f4_0 C dX4_ifLinked_75 ?_
    refine v_iconst C dX4_ifLinked_78 (v := 0) (by decide) ?_
    obtain ⟨G15, e14, hsh⟩ := obv_e hsh
    refine v_callSv (nP := 4) C (c_X4_copy l D t ad hI isA75 isA72 e14) k587 k585 k586 k5 yo_X4_copy ⟨Nat.le_of_ble_eq_true rfl, Nat.le_of_ble_eq_true rfl, rfl, rfl, Nat.zero_le _, Nat.zero_le _⟩ rfl rfl (Nat.le_of_ble_eq_true rfl) dX4_ifLinked_79 ?_
    refine v_iloadn C dX4_ifLinked_82 rfl ?_
    obtain ⟨rfl, rfl⟩ := so_i hsh
    exact v_iret C dX4_ifLinked_83
  refine v_aloadn C dX4_ifLinked_0 rfl ?_
  refine v_iloadn C dX4_ifLinked_1 rfl ?_
  obtain ⟨r2, e1, hsh⟩ := obp_e hsh
  refine v_callI (nP := 1) (k := 71) C (by decide) rfl rfl (c_X4_isLamp l D t ad hI  e1) k607 k604 k606 kp25 k5 yo_X4_isLamp ⟨Nat.le_of_ble_eq_true rfl, Nat.le_of_ble_eq_true rfl, rfl, rfl, Nat.zero_le _, Nat.zero_le _⟩ rfl rfl (Nat.le_of_ble_eq_true rfl) dX4_ifLinked_2 ?_
  refine v_if_eq C 16 dX4_ifLinked_5 (by decide) (fun hc => ?_) (fun hc => ?_)
  · replace hsh := ite_p hc hsh
    refine v_iconst C dX4_ifLinked_16 (v := -1) (by decide) ?_
    obtain ⟨rfl, rfl⟩ := so_i hsh
    exact v_iret C dX4_ifLinked_17
  · replace hsh := ite_n hc hsh
    refine v_aloadn C dX4_ifLinked_8 rfl ?_
    refine v_iloadn C dX4_ifLinked_9 rfl ?_
    obtain ⟨r4, e3, hsh⟩ := obp_e hsh
    refine v_callI (nP := 1) (k := 71) C (by decide) rfl rfl (c_X4_isLamp l D t ad hI  e3) k607 k604 k606 kp25 k5 yo_X4_isLamp ⟨Nat.le_of_ble_eq_true rfl, Nat.le_of_ble_eq_true rfl, rfl, rfl, Nat.zero_le _, Nat.zero_le _⟩ rfl rfl (Nat.le_of_ble_eq_true rfl) dX4_ifLinked_10 ?_
    refine v_if_ne C 18 dX4_ifLinked_13 (by decide) (fun hc => ?_) (fun hc => ?_)
    · replace hsh := ite_n hc hsh
      refine v_iloadn C dX4_ifLinked_18 rfl ?_
      refine v_iloadn C dX4_ifLinked_19 rfl ?_
      refine v_ic_ne C 26 dX4_ifLinked_20 (by decide) (fun hc => ?_) (fun hc => ?_)
      · replace hsh := ite_n hc hsh
        refine v_aloadn C dX4_ifLinked_26 rfl ?_
        refine f4_0 C dX4_ifLinked_27 ?_
        refine v_iconst C dX4_ifLinked_30 (v := 0) (by decide) ?_
        refine v_aloadn C dX4_ifLinked_31 rfl ?_
        refine f4_5 C dX4_ifLinked_32 ?_
        refine v_iconst C dX4_ifLinked_35 (v := 0) (by decide) ?_
        obtain ⟨G6, e5, hsh⟩ := obv_e hsh
        refine v_callSv (nP := 4) C (c_X4_copy l D t ad hI isA72 isA75 e5) k587 k585 k586 k5 yo_X4_copy ⟨Nat.le_of_ble_eq_true rfl, Nat.le_of_ble_eq_true rfl, rfl, rfl, Nat.zero_le _, Nat.zero_le _⟩ rfl rfl (Nat.le_of_ble_eq_true rfl) dX4_ifLinked_36 ?_
        refine v_aloadn C dX4_ifLinked_39 rfl ?_
        refine v_iloadn C dX4_ifLinked_40 rfl ?_
        refine v_iloadn C dX4_ifLinked_41 rfl ?_
        refine v_aloadn C dX4_ifLinked_42 rfl ?_
        refine v_iloadn C dX4_ifLinked_43 rfl ?_
        refine v_bipush C dX4_ifLinked_44 (v := 8) (by decide) ?_
        obtain ⟨r8, e7, hsh⟩ := obp_e hsh
        refine v_callI (nP := 2) (k := 71) C (by decide) rfl rfl (c_X4_of l D t ad hI  e7) k580 k577 k579 kp20 k5 yo_X4_of ⟨Nat.le_of_ble_eq_true rfl, Nat.le_of_ble_eq_true rfl, rfl, rfl, Nat.zero_le _, Nat.zero_le _⟩ rfl rfl (Nat.le_of_ble_eq_true rfl) dX4_ifLinked_46 ?_
        refine v_iloadn C dX4_ifLinked_49 rfl ?_
        refine v_callS (nP := 2) C (c_X4_has l D t ad hI  (G := G6) rfl) k633 k631 k632 k5 yo_X4_has ⟨Nat.le_of_ble_eq_true rfl, Nat.le_of_ble_eq_true rfl, rfl, rfl, Nat.zero_le _, Nat.zero_le _⟩ rfl rfl (Nat.le_of_ble_eq_true rfl) dX4_ifLinked_50 ?_
        refine v_if_ne C 60 dX4_ifLinked_53 (by decide) (fun hc => ?_) (fun hc => ?_)
        · replace hsh := ite_n hc hsh
          refine v_iconst C dX4_ifLinked_60 (v := 0) (by decide) ?_
          exact v_wk (hj61 _ _ _ _ hsh) (wk_of (And.intro rfl trivial))
        · replace hsh := ite_p hc hsh
          refine v_iconst C dX4_ifLinked_56 (v := 1) (by decide) ?_
          refine v_goto C 61 dX4_ifLinked_57 (by decide) ?_
          exact v_wk (hj61 _ _ _ _ hsh) (wk_of (And.intro rfl trivial))
      · replace hsh := ite_p hc hsh
        refine v_bipush C dX4_ifLinked_23 (v := -2) (by decide) ?_
        obtain ⟨rfl, rfl⟩ := so_i hsh
        exact v_iret C dX4_ifLinked_25
    · replace hsh := ite_p hc hsh
      refine v_iconst C dX4_ifLinked_16 (v := -1) (by decide) ?_
      obtain ⟨rfl, rfl⟩ := so_i hsh
      exact v_iret C dX4_ifLinked_17
theorem yo_X4_ifLinked : yOk yX4_ifLinked 2 := ⟨by decide, by decide, by decide +kernel⟩

def sh_X4_hub_j55 (G : gG) (kt72 : Int32 → Option (Int32)) (self5 : Int32 → Int32 → Option (Int32)) (l1 : Int32) (l2 : Int32) (x0 : Int32) : Option (Int32) := (if x0 = (0 : Int32) then self5 l1 (l2 + 1) else self5 l2 (l2 + 1))
def sh_X4_hub_j54 (G : gG) (kt72 : Int32 → Option (Int32)) (self5 : Int32 → Int32 → Option (Int32)) (l1 : Int32) (l2 : Int32) : Option (Int32) := (sh_X4_hub_j55 G kt72 self5 l1 l2 (0 : Int32))
def sh_X4_hub_j50 (G : gG) (kt72 : Int32 → Option (Int32)) (self5 : Int32 → Int32 → Option (Int32)) (l1 : Int32) (l2 : Int32) : Option (Int32) := (sh_X4_hub_j55 G kt72 self5 l1 l2 (1 : Int32))
def sh_X4_hub_5 (G : gG) (kt72 : Int32 → Option (Int32)) : Nat → Int32 → Int32 → Option (Int32)
  | 0, _, _ => none
  | n + 1, l1, l2 => (if (16 : Int32) ≤ l2 then kt72 l1 else (obp (sh_X4_of l2 (0 : Int32) G) fun r2 => (if r2 = (1 : Int32) then (if l1 = (-5 : Int32) then (sh_X4_hub_j50 G kt72 (sh_X4_hub_5 G kt72 n) l1 l2) else (obp (sh_X4_of l2 (8 : Int32) G) fun r4 => (obp (sh_X4_bits r4) fun r6 => (obp (sh_X4_of l1 (8 : Int32) G) fun r8 => (obp (sh_X4_bits r8) fun r10 => (if r6 ≤ r10 then (sh_X4_hub_j54 G kt72 (sh_X4_hub_5 G kt72 n) l1 l2) else (sh_X4_hub_j50 G kt72 (sh_X4_hub_5 G kt72 n) l1 l2))))))) else (sh_X4_hub_j54 G kt72 (sh_X4_hub_5 G kt72 n) l1 l2))))
def sh_X4_hub (G : gG) : Option (Int32) := (sh_X4_hub_5 G (fun l1 => some l1) FU (-5 : Int32) (0 : Int32))
set_option maxRecDepth 100000 in
set_option maxHeartbeats 4000000 in
theorem lp_X4_hub_5 {p : Program} {l : Launch} {e : Env} {s : State} {m : MethodId} {args : Array Value} {below : List Frame} {meth : Method} {c : Code} {D : va_G} {t : gT} {ad : Nat → Nat} (C : gC p s m args meth c cX4_hub RX4 4 (some .int) (isW ad) D t ad) (hI : gI ad) {G : gG} {r0 : Int32} {kt72 : Int32 → Option (Int32)} (hk72 : ∀ (l1 : Int32) , kt72 l1 = some r0 → V p l e (rM 1 22) s m args below meth c (isW ad) D t ad 0 0 4 (Qi below D t ad args s r0 G) G 72 [none, some (.int l1), none, none] []) : ∀ (n : Nat) (l1 : Int32) (l2 : Int32) , sh_X4_hub_5 G kt72 n l1 l2 = some r0 → V p l e (rM 1 22) s m args below meth c (isW ad) D t ad 0 0 4 (Qi below D t ad args s r0 G) G 5 [some (.ref (ad 71)), some (.int l1), some (.int l2), none] [] := by
  intro n
  induction n with
  | zero => intro l1 l2 hsh; rw [sh_X4_hub_5.eq_1] at hsh; cases hsh
  | succ n ih =>
    intro l1 l2 hsh
    rw [sh_X4_hub_5.eq_2] at hsh
    have hj55 : ∀ (l1 : Int32) (l2 : Int32) (x0 : Int32) , sh_X4_hub_j55 G kt72 (sh_X4_hub_5 G kt72 n) l1 l2 x0 = some r0 → V p l e (rM 1 22) s m args below meth c (isW ad) D t ad 0 0 4 (Qi below D t ad args s r0 G) G 55 [some (.ref (ad 71)), some (.int l1), some (.int l2), none] [.int x0] := by
      intro l1 l2 x0 hsh
      unfold sh_X4_hub_j55 at hsh
      refine v_istoren C dX4_hub_55 (by decide) ?_
      refine v_iloadn C dX4_hub_56 rfl ?_
      refine v_if_eq C 64 dX4_hub_57 (by decide) (fun hc => ?_) (fun hc => ?_)
      · replace hsh := ite_p hc hsh
        refine v_iloadn C dX4_hub_64 rfl ?_
        refine v_istoren C dX4_hub_65 (by decide) ?_
        refine v_iinc C dX4_hub_66 rfl (v := 1) (by decide) (by decide) ?_
        refine v_goto C 5 dX4_hub_69 (by decide) ?_
        exact v_wk (ih _ _ hsh) (wk_of (And.intro rfl (And.intro rfl (And.intro rfl trivial))))
      · replace hsh := ite_n hc hsh
        refine v_iloadn C dX4_hub_60 rfl ?_
        refine v_goto C 65 dX4_hub_61 (by decide) ?_
        refine v_istoren C dX4_hub_65 (by decide) ?_
        refine v_iinc C dX4_hub_66 rfl (v := 1) (by decide) (by decide) ?_
        refine v_goto C 5 dX4_hub_69 (by decide) ?_
        exact v_wk (ih _ _ hsh) (wk_of (And.intro rfl (And.intro rfl (And.intro rfl trivial))))
    have hj54 : ∀ (l1 : Int32) (l2 : Int32) , sh_X4_hub_j54 G kt72 (sh_X4_hub_5 G kt72 n) l1 l2 = some r0 → V p l e (rM 1 22) s m args below meth c (isW ad) D t ad 0 0 4 (Qi below D t ad args s r0 G) G 54 [some (.ref (ad 71)), some (.int l1), some (.int l2), none] [] := by
      intro l1 l2 hsh
      unfold sh_X4_hub_j54 at hsh
      refine v_iconst C dX4_hub_54 (v := 0) (by decide) ?_
      exact v_wk (hj55 _ _ _ hsh) (wk_of (And.intro rfl (And.intro rfl (And.intro rfl trivial))))
    have hj50 : ∀ (l1 : Int32) (l2 : Int32) , sh_X4_hub_j50 G kt72 (sh_X4_hub_5 G kt72 n) l1 l2 = some r0 → V p l e (rM 1 22) s m args below meth c (isW ad) D t ad 0 0 4 (Qi below D t ad args s r0 G) G 50 [some (.ref (ad 71)), some (.int l1), some (.int l2), none] [] := by
      intro l1 l2 hsh
      unfold sh_X4_hub_j50 at hsh
      refine v_iconst C dX4_hub_50 (v := 1) (by decide) ?_
      refine v_goto C 55 dX4_hub_51 (by decide) ?_
      exact v_wk (hj55 _ _ _ hsh) (wk_of (And.intro rfl (And.intro rfl (And.intro rfl trivial))))
    refine v_iloadn C dX4_hub_5 rfl ?_
    refine v_bipush C dX4_hub_6 (v := 16) (by decide) ?_
    refine v_ic_ge C 72 dX4_hub_8 (by decide) (fun hc => ?_) (fun hc => ?_)
    · replace hsh := ite_p hc hsh
      exact v_wk (hk72 _ hsh) (wk_of (And.intro rfl trivial))
    · replace hsh := ite_n hc hsh
      refine v_aloadn C dX4_hub_11 rfl ?_
      refine v_iloadn C dX4_hub_12 rfl ?_
      refine v_iconst C dX4_hub_13 (v := 0) (by decide) ?_
      obtain ⟨r2, e1, hsh⟩ := obp_e hsh
      refine v_callI (nP := 2) (k := 71) C (by decide) rfl rfl (c_X4_of l D t ad hI  e1) k580 k577 k579 kp20 k5 yo_X4_of ⟨Nat.le_of_ble_eq_true rfl, Nat.le_of_ble_eq_true rfl, rfl, rfl, Nat.zero_le _, Nat.zero_le _⟩ rfl rfl (Nat.le_of_ble_eq_true rfl) dX4_hub_14 ?_
      refine v_iconst C dX4_hub_17 (v := 1) (by decide) ?_
      refine v_ic_ne C 54 dX4_hub_18 (by decide) (fun hc => ?_) (fun hc => ?_)
      · replace hsh := ite_n hc hsh
        exact v_wk (hj54 _ _ hsh) (wk_of (And.intro rfl (And.intro rfl (And.intro rfl trivial))))
      · replace hsh := ite_p hc hsh
        refine v_iloadn C dX4_hub_21 rfl ?_
        refine v_bipush C dX4_hub_22 (v := -5) (by decide) ?_
        refine v_ic_eq C 50 dX4_hub_24 (by decide) (fun hc => ?_) (fun hc => ?_)
        · replace hsh := ite_p hc hsh
          exact v_wk (hj50 _ _ hsh) (wk_of (And.intro rfl (And.intro rfl (And.intro rfl trivial))))
        · replace hsh := ite_n hc hsh
          refine v_aloadn C dX4_hub_27 rfl ?_
          refine v_iloadn C dX4_hub_28 rfl ?_
          refine v_bipush C dX4_hub_29 (v := 8) (by decide) ?_
          obtain ⟨r4, e3, hsh⟩ := obp_e hsh
          refine v_callI (nP := 2) (k := 71) C (by decide) rfl rfl (c_X4_of l D t ad hI  e3) k580 k577 k579 kp20 k5 yo_X4_of ⟨Nat.le_of_ble_eq_true rfl, Nat.le_of_ble_eq_true rfl, rfl, rfl, Nat.zero_le _, Nat.zero_le _⟩ rfl rfl (Nat.le_of_ble_eq_true rfl) dX4_hub_31 ?_
          obtain ⟨r6, e5, hsh⟩ := obp_e hsh
          refine v_callS (nP := 1) C (c_X4_bits l D t ad hI  (G := G) e5) k610 k608 k609 k5 yo_X4_bits ⟨Nat.le_of_ble_eq_true rfl, Nat.le_of_ble_eq_true rfl, rfl, rfl, Nat.zero_le _, Nat.zero_le _⟩ rfl rfl (Nat.le_of_ble_eq_true rfl) dX4_hub_34 ?_
          refine v_aloadn C dX4_hub_37 rfl ?_
          refine v_iloadn C dX4_hub_38 rfl ?_
          refine v_bipush C dX4_hub_39 (v := 8) (by decide) ?_
          obtain ⟨r8, e7, hsh⟩ := obp_e hsh
          refine v_callI (nP := 2) (k := 71) C (by decide) rfl rfl (c_X4_of l D t ad hI  e7) k580 k577 k579 kp20 k5 yo_X4_of ⟨Nat.le_of_ble_eq_true rfl, Nat.le_of_ble_eq_true rfl, rfl, rfl, Nat.zero_le _, Nat.zero_le _⟩ rfl rfl (Nat.le_of_ble_eq_true rfl) dX4_hub_41 ?_
          obtain ⟨r10, e9, hsh⟩ := obp_e hsh
          refine v_callS (nP := 1) C (c_X4_bits l D t ad hI  (G := G) e9) k610 k608 k609 k5 yo_X4_bits ⟨Nat.le_of_ble_eq_true rfl, Nat.le_of_ble_eq_true rfl, rfl, rfl, Nat.zero_le _, Nat.zero_le _⟩ rfl rfl (Nat.le_of_ble_eq_true rfl) dX4_hub_44 ?_
          refine v_ic_le C 54 dX4_hub_47 (by decide) (fun hc => ?_) (fun hc => ?_)
          · replace hsh := ite_p hc hsh
            exact v_wk (hj54 _ _ hsh) (wk_of (And.intro rfl (And.intro rfl (And.intro rfl trivial))))
          · replace hsh := ite_n hc hsh
            exact v_wk (hj50 _ _ hsh) (wk_of (And.intro rfl (And.intro rfl (And.intro rfl trivial))))
set_option maxRecDepth 100000 in
set_option maxHeartbeats 4000000 in
theorem c_X4_hub (l : Launch) (D : va_G) (t : gT) (ad : Nat → Nat) (hI : gI ad) {G : gG} {r0 : Int32} (hsh : sh_X4_hub G = some r0) : Mi l D t ad yX4_hub cX4_hub 4 (some .int) (rM 1 22) [.ref (ad 71)] G r0 G := by
  refine m_go hI RX4 rfl (by decide +kernel) ⟨rfl, rfl⟩ (Nat.le_of_ble_eq_true rfl) rfl [some (.ref (ad 71)), none, none, none] rfl (fun p e s m args below meth c C => ?_)
  unfold sh_X4_hub at hsh
  refine v_bipush C dX4_hub_0 (v := -5) (by decide) ?_
  refine v_istoren C dX4_hub_2 (by decide) ?_
  refine v_iconst C dX4_hub_3 (v := 0) (by decide) ?_
  refine v_istoren C dX4_hub_4 (by decide) ?_
  refine v_wk (lp_X4_hub_5 C hI (fun l1 hsh => ?_) FU _ _ hsh) (wk_of (And.intro rfl (And.intro rfl (And.intro rfl trivial))))
  refine v_iloadn C dX4_hub_72 rfl ?_
  obtain rfl := so_1 hsh
  exact v_iret C dX4_hub_73
theorem yo_X4_hub : yOk yX4_hub 0 := ⟨by decide, by decide, by decide +kernel⟩

def sh_X4_bestLink_j160 (kt180 : Int32 → Int32 → Int32 → gG → Option (Int32 × gG)) (self34 : Int32 → Int32 → Int32 → Int32 → gG → Option (Int32 × gG)) (l1 : Int32) (l2 : Int32) (l4 : Int32) (x0 : Int32) (G : gG) : Option (Int32 × gG) := (obv (sh_X4_copy 75 72 (0 : Int32) (0 : Int32) G) fun G16 => self34 l1 l2 x0 (l4 + 1) G16)
def sh_X4_bestLink_j148 (kt180 : Int32 → Int32 → Int32 → gG → Option (Int32 × gG)) (self34 : Int32 → Int32 → Int32 → Int32 → gG → Option (Int32 × gG)) (l1 : Int32) (l3 : Int32) (l4 : Int32) (l7 : Int32) (l8 : Int32) (x0 : Int32) (G : gG) : Option (Int32 × gG) := (if l8 = (0 : Int32) then (sh_X4_bestLink_j160 kt180 self34 l1 x0 l4 l3 G) else (sh_X4_bestLink_j160 kt180 self34 l1 x0 l4 l7 G))
def sh_X4_bestLink_j135 (kt180 : Int32 → Int32 → Int32 → gG → Option (Int32 × gG)) (self34 : Int32 → Int32 → Int32 → Int32 → gG → Option (Int32 × gG)) (l1 : Int32) (l2 : Int32) (l3 : Int32) (l4 : Int32) (l7 : Int32) (x0 : Int32) (G : gG) : Option (Int32 × gG) := (if x0 = (0 : Int32) then (sh_X4_bestLink_j148 kt180 self34 l1 l3 l4 l7 x0 l2 G) else (sh_X4_bestLink_j148 kt180 self34 l1 l3 l4 l7 x0 l4 G))
def sh_X4_bestLink_j130 (kt180 : Int32 → Int32 → Int32 → gG → Option (Int32 × gG)) (self34 : Int32 → Int32 → Int32 → Int32 → gG → Option (Int32 × gG)) (l1 : Int32) (l2 : Int32) (l3 : Int32) (l4 : Int32) (l7 : Int32) (G : gG) : Option (Int32 × gG) := (sh_X4_bestLink_j135 kt180 self34 l1 l2 l3 l4 l7 (1 : Int32) G)
def sh_X4_bestLink_34  (kt180 : Int32 → Int32 → Int32 → gG → Option (Int32 × gG)) : Nat → Int32 → Int32 → Int32 → Int32 → gG → Option (Int32 × gG)
  | 0, _, _, _, _, _ => none
  | n + 1, l1, l2, l3, l4, G => (if (256 : Int32) ≤ l4 then kt180 l1 l2 l3 G else (if (l4 - l4 / (16 : Int32) * (16 : Int32)) ≤ (l4 / (16 : Int32)) then sh_X4_bestLink_34 kt180 n l1 l2 l3 (l4 + 1) G else (obp (sh_X4_isOn (l4 / (16 : Int32)) G) fun r4 => (if r4 = (0 : Int32) then sh_X4_bestLink_34 kt180 n l1 l2 l3 (l4 + 1) G else (obp (sh_X4_isOn (l4 - l4 / (16 : Int32) * (16 : Int32)) G) fun r6 => (if r6 = (0 : Int32) then sh_X4_bestLink_34 kt180 n l1 l2 l3 (l4 + 1) G else (obp (sh_X4_of (l4 / (16 : Int32)) (8 : Int32) G) fun r8 => (if (sh_X4_has r8 (l4 - l4 / (16 : Int32) * (16 : Int32))) = (0 : Int32) then (obv (sh_X4_connect (l4 / (16 : Int32)) (l4 - l4 / (16 : Int32) * (16 : Int32)) (1 : Int32) G) fun G10 => (obv (sh_X4_goOn (100 : Int32) G10) fun G12 => (obp (sh_X4_greatestDistance G12) fun r14 => (if l2 = (-5 : Int32) then (sh_X4_bestLink_j130 kt180 (sh_X4_bestLink_34 kt180 n) l1 l2 l3 l4 r14 G12) else (if l3 ≤ r14 then (sh_X4_bestLink_j135 kt180 (sh_X4_bestLink_34 kt180 n) l1 l2 l3 l4 r14 (0 : Int32) G12) else (sh_X4_bestLink_j130 kt180 (sh_X4_bestLink_34 kt180 n) l1 l2 l3 l4 r14 G12)))))) else sh_X4_bestLink_34 kt180 n l1 l2 l3 (l4 + 1) G))))))))
def sh_X4_bestLink (l1 : Int32) (G : gG) : Option (Int32 × gG) := (if (sh_X4_in l1 (0 : Int32) (2 : Int32)) = (0 : Int32) then some ((-2 : Int32), G) else (obv (sh_X4_copy 72 75 (0 : Int32) (0 : Int32) G) fun G2 => (sh_X4_bestLink_34 (fun l1 l2 l3 G => (if l2 = (-5 : Int32) then some ((-5 : Int32), G) else (if l1 = (0 : Int32) then some ((l2 / (16 : Int32)), G) else (if l1 = (1 : Int32) then some ((l2 - l2 / (16 : Int32) * (16 : Int32)), G) else some (l3, G))))) FU l1 (-5 : Int32) (-5 : Int32) (0 : Int32) G2)))
set_option maxRecDepth 100000 in
set_option maxHeartbeats 4000000 in
theorem lp_X4_bestLink_34 {p : Program} {l : Launch} {e : Env} {s : State} {m : MethodId} {args : Array Value} {below : List Frame} {meth : Method} {c : Code} {D : va_G} {t : gT} {ad : Nat → Nat} (C : gC p s m args meth c cX4_bestLink RX4 9 (some .int) (isW ad) D t ad) (hI : gI ad) {r0 : Int32} {G0 : gG} {kt180 : Int32 → Int32 → Int32 → gG → Option (Int32 × gG)} (hk180 : ∀ (l1 : Int32) (l2 : Int32) (l3 : Int32) (G : gG) , kt180 l1 l2 l3 G = some (r0, G0) → V p l e (rM 5 115) s m args below meth c (isW ad) D t ad 0 0 9 (Qi below D t ad args s r0 G0) G 180 [none, some (.int l1), some (.int l2), some (.int l3), none, none, none, none, none] []) : ∀ (n : Nat) (l1 : Int32) (l2 : Int32) (l3 : Int32) (l4 : Int32) (G : gG) , sh_X4_bestLink_34 kt180 n l1 l2 l3 l4 G = some (r0, G0) → V p l e (rM 5 115) s m args below meth c (isW ad) D t ad 0 0 9 (Qi below D t ad args s r0 G0) G 34 [some (.ref (ad 71)), some (.int l1), some (.int l2), some (.int l3), some (.int l4), none, none, none, none] [] := by
  intro n
  induction n with
  | zero => intro l1 l2 l3 l4 G hsh; rw [sh_X4_bestLink_34.eq_1] at hsh; cases hsh
  | succ n ih =>
    intro l1 l2 l3 l4 G hsh
    rw [sh_X4_bestLink_34.eq_2] at hsh
    have hj160 : ∀ (l1 : Int32) (l2 : Int32) (l4 : Int32) (x0 : Int32) (G : gG) , sh_X4_bestLink_j160 kt180 (sh_X4_bestLink_34 kt180 n) l1 l2 l4 x0 G = some (r0, G0) → V p l e (rM 5 115) s m args below meth c (isW ad) D t ad 0 0 9 (Qi below D t ad args s r0 G0) G 160 [some (.ref (ad 71)), some (.int l1), some (.int l2), none, some (.int l4), none, none, none, none] [.int x0] := by
      intro l1 l2 l4 x0 G hsh
      unfold sh_X4_bestLink_j160 at hsh
      refine v_istoren C dX4_bestLink_160 (by decide) ?_
      refine v_aloadn C dX4_bestLink_161 rfl ?_
      refine f4_5 C dX4_bestLink_162 ?_
      refine v_iconst C dX4_bestLink_165 (v := 0) (by decide) ?_
      refine v_aloadn C dX4_bestLink_166 rfl ?_
      refine f4_0 C dX4_bestLink_167 ?_
      refine v_iconst C dX4_bestLink_170 (v := 0) (by decide) ?_
      obtain ⟨G16, e15, hsh⟩ := obv_e hsh
      refine v_callSv (nP := 4) C (c_X4_copy l D t ad hI isA75 isA72 e15) k587 k585 k586 k5 yo_X4_copy ⟨Nat.le_of_ble_eq_true rfl, Nat.le_of_ble_eq_true rfl, rfl, rfl, Nat.zero_le _, Nat.zero_le _⟩ rfl rfl (Nat.le_of_ble_eq_true rfl) dX4_bestLink_171 ?_
      refine v_iinc C dX4_bestLink_174 rfl (v := 1) (by decide) (by decide) ?_
      refine v_goto C 34 dX4_bestLink_177 (by decide) ?_
      exact v_wk (ih _ _ _ _ _ hsh) (wk_of (And.intro rfl (And.intro rfl (And.intro rfl (And.intro rfl (And.intro rfl trivial))))))
    have hj148 : ∀ (l1 : Int32) (l3 : Int32) (l4 : Int32) (l7 : Int32) (l8 : Int32) (x0 : Int32) (G : gG) , sh_X4_bestLink_j148 kt180 (sh_X4_bestLink_34 kt180 n) l1 l3 l4 l7 l8 x0 G = some (r0, G0) → V p l e (rM 5 115) s m args below meth c (isW ad) D t ad 0 0 9 (Qi below D t ad args s r0 G0) G 148 [some (.ref (ad 71)), some (.int l1), none, some (.int l3), some (.int l4), none, none, some (.int l7), some (.int l8)] [.int x0] := by
      intro l1 l3 l4 l7 l8 x0 G hsh
      unfold sh_X4_bestLink_j148 at hsh
      refine v_istoren C dX4_bestLink_148 (by decide) ?_
      refine v_iload C dX4_bestLink_149 rfl ?_
      refine v_if_eq C 159 dX4_bestLink_151 (by decide) (fun hc => ?_) (fun hc => ?_)
      · replace hsh := ite_p hc hsh
        refine v_iloadn C dX4_bestLink_159 rfl ?_
        exact v_wk (hj160 _ _ _ _ _ hsh) (wk_of (And.intro rfl (And.intro rfl (And.intro rfl (And.intro rfl trivial)))))
      · replace hsh := ite_n hc hsh
        refine v_iload C dX4_bestLink_154 rfl ?_
        refine v_goto C 160 dX4_bestLink_156 (by decide) ?_
        exact v_wk (hj160 _ _ _ _ _ hsh) (wk_of (And.intro rfl (And.intro rfl (And.intro rfl (And.intro rfl trivial)))))
    have hj135 : ∀ (l1 : Int32) (l2 : Int32) (l3 : Int32) (l4 : Int32) (l7 : Int32) (x0 : Int32) (G : gG) , sh_X4_bestLink_j135 kt180 (sh_X4_bestLink_34 kt180 n) l1 l2 l3 l4 l7 x0 G = some (r0, G0) → V p l e (rM 5 115) s m args below meth c (isW ad) D t ad 0 0 9 (Qi below D t ad args s r0 G0) G 135 [some (.ref (ad 71)), some (.int l1), some (.int l2), some (.int l3), some (.int l4), none, none, some (.int l7), none] [.int x0] := by
      intro l1 l2 l3 l4 l7 x0 G hsh
      unfold sh_X4_bestLink_j135 at hsh
      refine v_istore C dX4_bestLink_135 (by decide) ?_
      refine v_iload C dX4_bestLink_137 rfl ?_
      refine v_if_eq C 147 dX4_bestLink_139 (by decide) (fun hc => ?_) (fun hc => ?_)
      · replace hsh := ite_p hc hsh
        refine v_iloadn C dX4_bestLink_147 rfl ?_
        exact v_wk (hj148 _ _ _ _ _ _ _ hsh) (wk_of (And.intro rfl (And.intro rfl (And.intro rfl (And.intro rfl (And.intro rfl (And.intro rfl trivial)))))))
      · replace hsh := ite_n hc hsh
        refine v_iload C dX4_bestLink_142 rfl ?_
        refine v_goto C 148 dX4_bestLink_144 (by decide) ?_
        exact v_wk (hj148 _ _ _ _ _ _ _ hsh) (wk_of (And.intro rfl (And.intro rfl (And.intro rfl (And.intro rfl (And.intro rfl (And.intro rfl trivial)))))))
    have hj130 : ∀ (l1 : Int32) (l2 : Int32) (l3 : Int32) (l4 : Int32) (l7 : Int32) (G : gG) , sh_X4_bestLink_j130 kt180 (sh_X4_bestLink_34 kt180 n) l1 l2 l3 l4 l7 G = some (r0, G0) → V p l e (rM 5 115) s m args below meth c (isW ad) D t ad 0 0 9 (Qi below D t ad args s r0 G0) G 130 [some (.ref (ad 71)), some (.int l1), some (.int l2), some (.int l3), some (.int l4), none, none, some (.int l7), none] [] := by
      intro l1 l2 l3 l4 l7 G hsh
      unfold sh_X4_bestLink_j130 at hsh
      refine v_iconst C dX4_bestLink_130 (v := 1) (by decide) ?_
      refine v_goto C 135 dX4_bestLink_131 (by decide) ?_
      exact v_wk (hj135 _ _ _ _ _ _ _ hsh) (wk_of (And.intro rfl (And.intro rfl (And.intro rfl (And.intro rfl (And.intro rfl (And.intro rfl trivial)))))))
    refine v_iload C dX4_bestLink_34 rfl ?_
    refine v_sipush C dX4_bestLink_36 (v := 256) (by decide) ?_
    refine v_ic_ge C 180 dX4_bestLink_39 (by decide) (fun hc => ?_) (fun hc => ?_)
    · replace hsh := ite_p hc hsh
      exact v_wk (hk180 _ _ _ _ hsh) (wk_of (And.intro rfl (And.intro rfl (And.intro rfl trivial))))
    · replace hsh := ite_n hc hsh
      refine v_iload C dX4_bestLink_42 rfl ?_
      refine v_bipush C dX4_bestLink_44 (v := 16) (by decide) ?_
      refine v_idiv C dX4_bestLink_46 (by decide) ?_
      refine v_istore C dX4_bestLink_47 (by decide) ?_
      refine v_iload C dX4_bestLink_49 rfl ?_
      refine v_bipush C dX4_bestLink_51 (v := 16) (by decide) ?_
      refine v_irem C dX4_bestLink_53 (by decide) ?_
      refine v_istore C dX4_bestLink_54 (by decide) ?_
      refine v_iload C dX4_bestLink_56 rfl ?_
      refine v_iload C dX4_bestLink_58 rfl ?_
      refine v_ic_ge C 174 dX4_bestLink_60 (by decide) (fun hc => ?_) (fun hc => ?_)
      · replace hsh := ite_p hc hsh
        refine v_iinc C dX4_bestLink_174 rfl (v := 1) (by decide) (by decide) ?_
        refine v_goto C 34 dX4_bestLink_177 (by decide) ?_
        exact v_wk (ih _ _ _ _ _ hsh) (wk_of (And.intro rfl (And.intro rfl (And.intro rfl (And.intro rfl (And.intro rfl trivial))))))
      · replace hsh := ite_n hc hsh
        refine v_aloadn C dX4_bestLink_63 rfl ?_
        refine v_iload C dX4_bestLink_64 rfl ?_
        obtain ⟨r4, e3, hsh⟩ := obp_e hsh
        refine v_callI (nP := 1) (k := 71) C (by decide) rfl rfl (c_X4_isOn l D t ad hI  e3) k618 k615 k617 kp26 k5 yo_X4_isOn ⟨Nat.le_of_ble_eq_true rfl, Nat.le_of_ble_eq_true rfl, rfl, rfl, Nat.zero_le _, Nat.zero_le _⟩ rfl rfl (Nat.le_of_ble_eq_true rfl) dX4_bestLink_66 ?_
        refine v_if_eq C 174 dX4_bestLink_69 (by decide) (fun hc => ?_) (fun hc => ?_)
        · replace hsh := ite_p hc hsh
          refine v_iinc C dX4_bestLink_174 rfl (v := 1) (by decide) (by decide) ?_
          refine v_goto C 34 dX4_bestLink_177 (by decide) ?_
          exact v_wk (ih _ _ _ _ _ hsh) (wk_of (And.intro rfl (And.intro rfl (And.intro rfl (And.intro rfl (And.intro rfl trivial))))))
        · replace hsh := ite_n hc hsh
          refine v_aloadn C dX4_bestLink_72 rfl ?_
          refine v_iload C dX4_bestLink_73 rfl ?_
          obtain ⟨r6, e5, hsh⟩ := obp_e hsh
          refine v_callI (nP := 1) (k := 71) C (by decide) rfl rfl (c_X4_isOn l D t ad hI  e5) k618 k615 k617 kp26 k5 yo_X4_isOn ⟨Nat.le_of_ble_eq_true rfl, Nat.le_of_ble_eq_true rfl, rfl, rfl, Nat.zero_le _, Nat.zero_le _⟩ rfl rfl (Nat.le_of_ble_eq_true rfl) dX4_bestLink_75 ?_
          refine v_if_eq C 174 dX4_bestLink_78 (by decide) (fun hc => ?_) (fun hc => ?_)
          · replace hsh := ite_p hc hsh
            refine v_iinc C dX4_bestLink_174 rfl (v := 1) (by decide) (by decide) ?_
            refine v_goto C 34 dX4_bestLink_177 (by decide) ?_
            exact v_wk (ih _ _ _ _ _ hsh) (wk_of (And.intro rfl (And.intro rfl (And.intro rfl (And.intro rfl (And.intro rfl trivial))))))
          · replace hsh := ite_n hc hsh
            refine v_aloadn C dX4_bestLink_81 rfl ?_
            refine v_iload C dX4_bestLink_82 rfl ?_
            refine v_bipush C dX4_bestLink_84 (v := 8) (by decide) ?_
            obtain ⟨r8, e7, hsh⟩ := obp_e hsh
            refine v_callI (nP := 2) (k := 71) C (by decide) rfl rfl (c_X4_of l D t ad hI  e7) k580 k577 k579 kp20 k5 yo_X4_of ⟨Nat.le_of_ble_eq_true rfl, Nat.le_of_ble_eq_true rfl, rfl, rfl, Nat.zero_le _, Nat.zero_le _⟩ rfl rfl (Nat.le_of_ble_eq_true rfl) dX4_bestLink_86 ?_
            refine v_iload C dX4_bestLink_89 rfl ?_
            refine v_callS (nP := 2) C (c_X4_has l D t ad hI  (G := G) rfl) k633 k631 k632 k5 yo_X4_has ⟨Nat.le_of_ble_eq_true rfl, Nat.le_of_ble_eq_true rfl, rfl, rfl, Nat.zero_le _, Nat.zero_le _⟩ rfl rfl (Nat.le_of_ble_eq_true rfl) dX4_bestLink_91 ?_
            refine v_if_ne C 174 dX4_bestLink_94 (by decide) (fun hc => ?_) (fun hc => ?_)
            · replace hsh := ite_n hc hsh
              refine v_iinc C dX4_bestLink_174 rfl (v := 1) (by decide) (by decide) ?_
              refine v_goto C 34 dX4_bestLink_177 (by decide) ?_
              exact v_wk (ih _ _ _ _ _ hsh) (wk_of (And.intro rfl (And.intro rfl (And.intro rfl (And.intro rfl (And.intro rfl trivial))))))
            · replace hsh := ite_p hc hsh
              refine v_aloadn C dX4_bestLink_97 rfl ?_
              refine v_iload C dX4_bestLink_98 rfl ?_
              refine v_iload C dX4_bestLink_100 rfl ?_
              refine v_iconst C dX4_bestLink_102 (v := 1) (by decide) ?_
              obtain ⟨G10, e9, hsh⟩ := obv_e hsh
              refine v_callV (nP := 3) (k := 71) C (by decide) rfl rfl (c_X4_connect l D t ad hI  e9) k637 k634 k636 kp29 k5 yo_X4_connect ⟨Nat.le_of_ble_eq_true rfl, Nat.le_of_ble_eq_true rfl, rfl, rfl, Nat.zero_le _, Nat.zero_le _⟩ rfl rfl (Nat.le_of_ble_eq_true rfl) dX4_bestLink_103 ?_
              refine v_aloadn C dX4_bestLink_106 rfl ?_
              refine v_bipush C dX4_bestLink_107 (v := 100) (by decide) ?_
              obtain ⟨G12, e11, hsh⟩ := obv_e hsh
              refine v_callV (nP := 1) (k := 71) C (by decide) rfl rfl (c_X4_goOn l D t ad hI  e11) k658 k655 k657 kp31 k5 yo_X4_goOn ⟨Nat.le_of_ble_eq_true rfl, Nat.le_of_ble_eq_true rfl, rfl, rfl, Nat.zero_le _, Nat.zero_le _⟩ rfl rfl (Nat.le_of_ble_eq_true rfl) dX4_bestLink_109 ?_
              refine v_aloadn C dX4_bestLink_112 rfl ?_
              obtain ⟨r14, e13, hsh⟩ := obp_e hsh
              refine v_callI (nP := 0) (k := 71) C (by decide) rfl rfl (c_X4_greatestDistance l D t ad hI  e13) k765 k762 k764 kp47 k5 yo_X4_greatestDistance ⟨Nat.le_of_ble_eq_true rfl, Nat.le_of_ble_eq_true rfl, rfl, rfl, Nat.zero_le _, Nat.zero_le _⟩ rfl rfl (Nat.le_of_ble_eq_true rfl) dX4_bestLink_113 ?_
              refine v_istore C dX4_bestLink_116 (by decide) ?_
              refine v_iloadn C dX4_bestLink_118 rfl ?_
              refine v_bipush C dX4_bestLink_119 (v := -5) (by decide) ?_
              refine v_ic_eq C 130 dX4_bestLink_121 (by decide) (fun hc => ?_) (fun hc => ?_)
              · replace hsh := ite_p hc hsh
                exact v_wk (hj130 _ _ _ _ _ _ hsh) (wk_of (And.intro rfl (And.intro rfl (And.intro rfl (And.intro rfl (And.intro rfl (And.intro rfl trivial)))))))
              · replace hsh := ite_n hc hsh
                refine v_iload C dX4_bestLink_124 rfl ?_
                refine v_iloadn C dX4_bestLink_126 rfl ?_
                refine v_ic_ge C 134 dX4_bestLink_127 (by decide) (fun hc => ?_) (fun hc => ?_)
                · replace hsh := ite_p hc hsh
                  refine v_iconst C dX4_bestLink_134 (v := 0) (by decide) ?_
                  exact v_wk (hj135 _ _ _ _ _ _ _ hsh) (wk_of (And.intro rfl (And.intro rfl (And.intro rfl (And.intro rfl (And.intro rfl (And.intro rfl trivial)))))))
                · replace hsh := ite_n hc hsh
                  exact v_wk (hj130 _ _ _ _ _ _ hsh) (wk_of (And.intro rfl (And.intro rfl (And.intro rfl (And.intro rfl (And.intro rfl (And.intro rfl trivial)))))))
set_option maxRecDepth 100000 in
set_option maxHeartbeats 4000000 in
theorem c_X4_bestLink (l : Launch) (D : va_G) (t : gT) (ad : Nat → Nat) (hI : gI ad) {l1 : Int32} {G : gG} {r0 : Int32} {G0 : gG} (hsh : sh_X4_bestLink l1 G = some (r0, G0)) : Mi l D t ad yX4_bestLink cX4_bestLink 9 (some .int) (rM 5 115) [.ref (ad 71), .int l1] G r0 G0 := by
  refine m_go hI RX4 rfl (by decide +kernel) ⟨rfl, rfl⟩ (Nat.le_of_ble_eq_true rfl) rfl [some (.ref (ad 71)), some (.int l1), none, none, none, none, none, none, none] rfl (fun p e s m args below meth c C => ?_)
  unfold sh_X4_bestLink at hsh
  refine v_iloadn C dX4_bestLink_0 rfl ?_
  refine v_iconst C dX4_bestLink_1 (v := 0) (by decide) ?_
  refine v_iconst C dX4_bestLink_2 (v := 2) (by decide) ?_
  refine v_callS (nP := 3) C (c_X4_in l D t ad hI  (G := G) rfl) k576 k574 k575 k5 yo_X4_in ⟨Nat.le_of_ble_eq_true rfl, Nat.le_of_ble_eq_true rfl, rfl, rfl, Nat.zero_le _, Nat.zero_le _⟩ rfl rfl (Nat.le_of_ble_eq_true rfl) dX4_bestLink_3 ?_
  refine v_if_ne C 12 dX4_bestLink_6 (by decide) (fun hc => ?_) (fun hc => ?_)
  · replace hsh := ite_n hc hsh
    refine v_bipush C dX4_bestLink_12 (v := -5) (by decide) ?_
    refine v_istoren C dX4_bestLink_14 (by decide) ?_
    refine v_bipush C dX4_bestLink_15 (v := -5) (by decide) ?_
    refine v_istoren C dX4_bestLink_17 (by decide) ?_
    refine v_aloadn C dX4_bestLink_18 rfl ?_
    refine f4_0 C dX4_bestLink_19 ?_
    refine v_iconst C dX4_bestLink_22 (v := 0) (by decide) ?_
    refine v_aloadn C dX4_bestLink_23 rfl ?_
    refine f4_5 C dX4_bestLink_24 ?_
    refine v_iconst C dX4_bestLink_27 (v := 0) (by decide) ?_
    obtain ⟨G2, e1, hsh⟩ := obv_e hsh
    refine v_callSv (nP := 4) C (c_X4_copy l D t ad hI isA72 isA75 e1) k587 k585 k586 k5 yo_X4_copy ⟨Nat.le_of_ble_eq_true rfl, Nat.le_of_ble_eq_true rfl, rfl, rfl, Nat.zero_le _, Nat.zero_le _⟩ rfl rfl (Nat.le_of_ble_eq_true rfl) dX4_bestLink_28 ?_
    refine v_iconst C dX4_bestLink_31 (v := 0) (by decide) ?_
    refine v_istore C dX4_bestLink_32 (by decide) ?_
    refine v_wk (lp_X4_bestLink_34 C hI (fun l1 l2 l3 G hsh => ?_) FU _ _ _ _ _ hsh) (wk_of (And.intro rfl (And.intro rfl (And.intro rfl (And.intro rfl (And.intro rfl trivial))))))
    refine v_iloadn C dX4_bestLink_180 rfl ?_
    refine v_bipush C dX4_bestLink_181 (v := -5) (by decide) ?_
    refine v_ic_ne C 191 dX4_bestLink_183 (by decide) (fun hc => ?_) (fun hc => ?_)
    · replace hsh := ite_n hc hsh
      refine v_iloadn C dX4_bestLink_191 rfl ?_
      refine v_if_ne C 202 dX4_bestLink_192 (by decide) (fun hc => ?_) (fun hc => ?_)
      · replace hsh := ite_n hc hsh
        refine v_iloadn C dX4_bestLink_202 rfl ?_
        refine v_iconst C dX4_bestLink_203 (v := 1) (by decide) ?_
        refine v_ic_ne C 214 dX4_bestLink_204 (by decide) (fun hc => ?_) (fun hc => ?_)
        · replace hsh := ite_n hc hsh
          refine v_iloadn C dX4_bestLink_214 rfl ?_
          obtain ⟨rfl, rfl⟩ := so_i hsh
          exact v_iret C dX4_bestLink_215
        · replace hsh := ite_p hc hsh
          refine v_iloadn C dX4_bestLink_207 rfl ?_
          refine v_bipush C dX4_bestLink_208 (v := 16) (by decide) ?_
          refine v_irem C dX4_bestLink_210 (by decide) ?_
          refine v_goto C 215 dX4_bestLink_211 (by decide) ?_
          obtain ⟨rfl, rfl⟩ := so_i hsh
          exact v_iret C dX4_bestLink_215
      · replace hsh := ite_p hc hsh
        refine v_iloadn C dX4_bestLink_195 rfl ?_
        refine v_bipush C dX4_bestLink_196 (v := 16) (by decide) ?_
        refine v_idiv C dX4_bestLink_198 (by decide) ?_
        refine v_goto C 215 dX4_bestLink_199 (by decide) ?_
        obtain ⟨rfl, rfl⟩ := so_i hsh
        exact v_iret C dX4_bestLink_215
    · replace hsh := ite_p hc hsh
      refine v_bipush C dX4_bestLink_186 (v := -5) (by decide) ?_
      refine v_goto C 215 dX4_bestLink_188 (by decide) ?_
      obtain ⟨rfl, rfl⟩ := so_i hsh
      exact v_iret C dX4_bestLink_215
  · replace hsh := ite_p hc hsh
    refine v_bipush C dX4_bestLink_9 (v := -2) (by decide) ?_
    obtain ⟨rfl, rfl⟩ := so_i hsh
    exact v_iret C dX4_bestLink_11
theorem yo_X4_bestLink : yOk yX4_bestLink 1 := ⟨by decide, by decide, by decide +kernel⟩

def sh_X4_count (l1 : Int32) (G : gG) : Option (Int32) := (if l1 = (0 : Int32) then some (G 72 ((0 : Int32)).toNatClampNeg) else (if l1 = (1 : Int32) then (obp (sh_X4_setOf (0 : Int32) G) fun r2 => (obp (sh_X4_bits r2) fun r4 => some r4)) else (if l1 = (2 : Int32) then (obp (sh_X4_lampsOn G) fun r6 => (obp (sh_X4_bits r6) fun r8 => some r8)) else (if l1 = (3 : Int32) then (obp (sh_X4_links G) fun r10 => some r10) else (if l1 = (4 : Int32) then (obp (sh_X4_pieces G) fun r12 => some r12) else (if l1 = (5 : Int32) then (if gin (((1 : Int32) + l1) - (5 : Int32)) 152 = true then some (G 72 ((((1 : Int32) + l1) - (5 : Int32))).toNatClampNeg) else none) else (if l1 = (6 : Int32) then (if gin (((1 : Int32) + l1) - (5 : Int32)) 152 = true then some (G 72 ((((1 : Int32) + l1) - (5 : Int32))).toNatClampNeg) else none) else (if l1 = (7 : Int32) then (if gin (((1 : Int32) + l1) - (5 : Int32)) 152 = true then some (G 72 ((((1 : Int32) + l1) - (5 : Int32))).toNatClampNeg) else none) else (if l1 = (8 : Int32) then (if gin (((1 : Int32) + l1) - (5 : Int32)) 152 = true then some (G 72 ((((1 : Int32) + l1) - (5 : Int32))).toNatClampNeg) else none) else (if l1 = (9 : Int32) then (if gin (((5 : Int32) + l1) - (9 : Int32)) 152 = true then some (G 72 ((((5 : Int32) + l1) - (9 : Int32))).toNatClampNeg) else none) else (if l1 = (10 : Int32) then (if gin (((5 : Int32) + l1) - (9 : Int32)) 152 = true then some (G 72 ((((5 : Int32) + l1) - (9 : Int32))).toNatClampNeg) else none) else (if l1 = (11 : Int32) then (if gin (((5 : Int32) + l1) - (9 : Int32)) 152 = true then some (G 72 ((((5 : Int32) + l1) - (9 : Int32))).toNatClampNeg) else none) else (if l1 = (12 : Int32) then some (G 71 2) else (if l1 = (13 : Int32) then some (G 71 7) else some (-2 : Int32)))))))))))))))
set_option maxRecDepth 100000 in
set_option maxHeartbeats 4000000 in
theorem c_X4_count (l : Launch) (D : va_G) (t : gT) (ad : Nat → Nat) (hI : gI ad) {l1 : Int32} {G : gG} {r0 : Int32} (hsh : sh_X4_count l1 G = some r0) : Mi l D t ad yX4_count cX4_count 2 (some .int) (rM 5 113) [.ref (ad 71), .int l1] G r0 G := by
  refine m_go hI RX4 rfl (by decide +kernel) ⟨rfl, rfl⟩ (Nat.le_of_ble_eq_true rfl) rfl [some (.ref (ad 71)), some (.int l1)] rfl (fun p e s m args below meth c C => ?_)
  unfold sh_X4_count at hsh
  refine v_iloadn C dX4_count_0 rfl ?_
  by_cases h0 : l1 = (0 : Int32)
  · replace hsh := ite_p h0 hsh
    refine v_tabIn C 72 dX4_count_1 (by rw [h0]; decide) (by rw [h0]; decide) (off := 71) (by rw [h0]; rfl) (by decide) ?_
    refine v_aloadn C dX4_count_72 rfl ?_
    refine f4_0 C dX4_count_73 ?_
    refine v_iconst C dX4_count_76 (v := 0) (by decide) ?_
    refine v_ld C (k := 72) (by decide) rfl (gin_in (by decide)) dX4_count_77 ?_
    obtain rfl := so_1 hsh
    exact v_iret C dX4_count_78
  · replace hsh := ite_n h0 hsh
    by_cases h1 : l1 = (1 : Int32)
    · replace hsh := ite_p h1 hsh
      refine v_tabIn C 79 dX4_count_1 (by rw [h1]; decide) (by rw [h1]; decide) (off := 78) (by rw [h1]; rfl) (by decide) ?_
      refine v_aloadn C dX4_count_79 rfl ?_
      refine v_iconst C dX4_count_80 (v := 0) (by decide) ?_
      obtain ⟨r2, e1, hsh⟩ := obp_e hsh
      refine v_callI (nP := 1) (k := 71) C (by decide) rfl rfl (c_X4_setOf l D t ad hI  e1) k626 k623 k625 kp28 k5 yo_X4_setOf ⟨Nat.le_of_ble_eq_true rfl, Nat.le_of_ble_eq_true rfl, rfl, rfl, Nat.zero_le _, Nat.zero_le _⟩ rfl rfl (Nat.le_of_ble_eq_true rfl) dX4_count_81 ?_
      obtain ⟨r4, e3, hsh⟩ := obp_e hsh
      refine v_callS (nP := 1) C (c_X4_bits l D t ad hI  (G := G) e3) k610 k608 k609 k5 yo_X4_bits ⟨Nat.le_of_ble_eq_true rfl, Nat.le_of_ble_eq_true rfl, rfl, rfl, Nat.zero_le _, Nat.zero_le _⟩ rfl rfl (Nat.le_of_ble_eq_true rfl) dX4_count_84 ?_
      obtain rfl := so_1 hsh
      exact v_iret C dX4_count_87
    · replace hsh := ite_n h1 hsh
      by_cases h2 : l1 = (2 : Int32)
      · replace hsh := ite_p h2 hsh
        refine v_tabIn C 88 dX4_count_1 (by rw [h2]; decide) (by rw [h2]; decide) (off := 87) (by rw [h2]; rfl) (by decide) ?_
        refine v_aloadn C dX4_count_88 rfl ?_
        obtain ⟨r6, e5, hsh⟩ := obp_e hsh
        refine v_callI (nP := 0) (k := 71) C (by decide) rfl rfl (c_X4_lampsOn l D t ad hI  e5) k622 k619 k621 kp27 k5 yo_X4_lampsOn ⟨Nat.le_of_ble_eq_true rfl, Nat.le_of_ble_eq_true rfl, rfl, rfl, Nat.zero_le _, Nat.zero_le _⟩ rfl rfl (Nat.le_of_ble_eq_true rfl) dX4_count_89 ?_
        obtain ⟨r8, e7, hsh⟩ := obp_e hsh
        refine v_callS (nP := 1) C (c_X4_bits l D t ad hI  (G := G) e7) k610 k608 k609 k5 yo_X4_bits ⟨Nat.le_of_ble_eq_true rfl, Nat.le_of_ble_eq_true rfl, rfl, rfl, Nat.zero_le _, Nat.zero_le _⟩ rfl rfl (Nat.le_of_ble_eq_true rfl) dX4_count_92 ?_
        obtain rfl := so_1 hsh
        exact v_iret C dX4_count_95
      · replace hsh := ite_n h2 hsh
        by_cases h3 : l1 = (3 : Int32)
        · replace hsh := ite_p h3 hsh
          refine v_tabIn C 96 dX4_count_1 (by rw [h3]; decide) (by rw [h3]; decide) (off := 95) (by rw [h3]; rfl) (by decide) ?_
          refine v_aloadn C dX4_count_96 rfl ?_
          obtain ⟨r10, e9, hsh⟩ := obp_e hsh
          refine v_callI (nP := 0) (k := 71) C (by decide) rfl rfl (c_X4_links l D t ad hI  e9) k641 k638 k640 kp30 k5 yo_X4_links ⟨Nat.le_of_ble_eq_true rfl, Nat.le_of_ble_eq_true rfl, rfl, rfl, Nat.zero_le _, Nat.zero_le _⟩ rfl rfl (Nat.le_of_ble_eq_true rfl) dX4_count_97 ?_
          obtain rfl := so_1 hsh
          exact v_iret C dX4_count_100
        · replace hsh := ite_n h3 hsh
          by_cases h4 : l1 = (4 : Int32)
          · replace hsh := ite_p h4 hsh
            refine v_tabIn C 101 dX4_count_1 (by rw [h4]; decide) (by rw [h4]; decide) (off := 100) (by rw [h4]; rfl) (by decide) ?_
            refine v_aloadn C dX4_count_101 rfl ?_
            obtain ⟨r12, e11, hsh⟩ := obp_e hsh
            refine v_callI (nP := 0) (k := 71) C (by decide) rfl rfl (c_X4_pieces l D t ad hI  e11) k773 k770 k772 kp48 k5 yo_X4_pieces ⟨Nat.le_of_ble_eq_true rfl, Nat.le_of_ble_eq_true rfl, rfl, rfl, Nat.zero_le _, Nat.zero_le _⟩ rfl rfl (Nat.le_of_ble_eq_true rfl) dX4_count_102 ?_
            obtain rfl := so_1 hsh
            exact v_iret C dX4_count_105
          · replace hsh := ite_n h4 hsh
            by_cases h5 : l1 = (5 : Int32)
            · replace hsh := ite_p h5 hsh
              refine v_tabIn C 106 dX4_count_1 (by rw [h5]; decide) (by rw [h5]; decide) (off := 105) (by rw [h5]; rfl) (by decide) ?_
              refine v_aloadn C dX4_count_106 rfl ?_
              refine f4_0 C dX4_count_107 ?_
              refine v_iconst C dX4_count_110 (v := 1) (by decide) ?_
              refine v_iloadn C dX4_count_111 rfl ?_
              refine v_iadd C dX4_count_112 ?_
              refine v_iconst C dX4_count_113 (v := 5) (by decide) ?_
              refine v_isub C dX4_count_114 ?_
              obtain ⟨h13, hsh⟩ := g_if hsh
              refine v_ld C (k := 72) (by decide) rfl (gin_in h13) dX4_count_115 ?_
              obtain rfl := so_1 hsh
              exact v_iret C dX4_count_116
            · replace hsh := ite_n h5 hsh
              by_cases h6 : l1 = (6 : Int32)
              · replace hsh := ite_p h6 hsh
                refine v_tabIn C 106 dX4_count_1 (by rw [h6]; decide) (by rw [h6]; decide) (off := 105) (by rw [h6]; rfl) (by decide) ?_
                refine v_aloadn C dX4_count_106 rfl ?_
                refine f4_0 C dX4_count_107 ?_
                refine v_iconst C dX4_count_110 (v := 1) (by decide) ?_
                refine v_iloadn C dX4_count_111 rfl ?_
                refine v_iadd C dX4_count_112 ?_
                refine v_iconst C dX4_count_113 (v := 5) (by decide) ?_
                refine v_isub C dX4_count_114 ?_
                obtain ⟨h14, hsh⟩ := g_if hsh
                refine v_ld C (k := 72) (by decide) rfl (gin_in h14) dX4_count_115 ?_
                obtain rfl := so_1 hsh
                exact v_iret C dX4_count_116
              · replace hsh := ite_n h6 hsh
                by_cases h7 : l1 = (7 : Int32)
                · replace hsh := ite_p h7 hsh
                  refine v_tabIn C 106 dX4_count_1 (by rw [h7]; decide) (by rw [h7]; decide) (off := 105) (by rw [h7]; rfl) (by decide) ?_
                  refine v_aloadn C dX4_count_106 rfl ?_
                  refine f4_0 C dX4_count_107 ?_
                  refine v_iconst C dX4_count_110 (v := 1) (by decide) ?_
                  refine v_iloadn C dX4_count_111 rfl ?_
                  refine v_iadd C dX4_count_112 ?_
                  refine v_iconst C dX4_count_113 (v := 5) (by decide) ?_
                  refine v_isub C dX4_count_114 ?_
                  obtain ⟨h15, hsh⟩ := g_if hsh
                  refine v_ld C (k := 72) (by decide) rfl (gin_in h15) dX4_count_115 ?_
                  obtain rfl := so_1 hsh
                  exact v_iret C dX4_count_116
                · replace hsh := ite_n h7 hsh
                  by_cases h8 : l1 = (8 : Int32)
                  · replace hsh := ite_p h8 hsh
                    refine v_tabIn C 106 dX4_count_1 (by rw [h8]; decide) (by rw [h8]; decide) (off := 105) (by rw [h8]; rfl) (by decide) ?_
                    refine v_aloadn C dX4_count_106 rfl ?_
                    refine f4_0 C dX4_count_107 ?_
                    refine v_iconst C dX4_count_110 (v := 1) (by decide) ?_
                    refine v_iloadn C dX4_count_111 rfl ?_
                    refine v_iadd C dX4_count_112 ?_
                    refine v_iconst C dX4_count_113 (v := 5) (by decide) ?_
                    refine v_isub C dX4_count_114 ?_
                    obtain ⟨h16, hsh⟩ := g_if hsh
                    refine v_ld C (k := 72) (by decide) rfl (gin_in h16) dX4_count_115 ?_
                    obtain rfl := so_1 hsh
                    exact v_iret C dX4_count_116
                  · replace hsh := ite_n h8 hsh
                    by_cases h9 : l1 = (9 : Int32)
                    · replace hsh := ite_p h9 hsh
                      refine v_tabIn C 117 dX4_count_1 (by rw [h9]; decide) (by rw [h9]; decide) (off := 116) (by rw [h9]; rfl) (by decide) ?_
                      refine v_aloadn C dX4_count_117 rfl ?_
                      refine f4_0 C dX4_count_118 ?_
                      refine v_iconst C dX4_count_121 (v := 5) (by decide) ?_
                      refine v_iloadn C dX4_count_122 rfl ?_
                      refine v_iadd C dX4_count_123 ?_
                      refine v_bipush C dX4_count_124 (v := 9) (by decide) ?_
                      refine v_isub C dX4_count_126 ?_
                      obtain ⟨h17, hsh⟩ := g_if hsh
                      refine v_ld C (k := 72) (by decide) rfl (gin_in h17) dX4_count_127 ?_
                      obtain rfl := so_1 hsh
                      exact v_iret C dX4_count_128
                    · replace hsh := ite_n h9 hsh
                      by_cases h10 : l1 = (10 : Int32)
                      · replace hsh := ite_p h10 hsh
                        refine v_tabIn C 117 dX4_count_1 (by rw [h10]; decide) (by rw [h10]; decide) (off := 116) (by rw [h10]; rfl) (by decide) ?_
                        refine v_aloadn C dX4_count_117 rfl ?_
                        refine f4_0 C dX4_count_118 ?_
                        refine v_iconst C dX4_count_121 (v := 5) (by decide) ?_
                        refine v_iloadn C dX4_count_122 rfl ?_
                        refine v_iadd C dX4_count_123 ?_
                        refine v_bipush C dX4_count_124 (v := 9) (by decide) ?_
                        refine v_isub C dX4_count_126 ?_
                        obtain ⟨h18, hsh⟩ := g_if hsh
                        refine v_ld C (k := 72) (by decide) rfl (gin_in h18) dX4_count_127 ?_
                        obtain rfl := so_1 hsh
                        exact v_iret C dX4_count_128
                      · replace hsh := ite_n h10 hsh
                        by_cases h11 : l1 = (11 : Int32)
                        · replace hsh := ite_p h11 hsh
                          refine v_tabIn C 117 dX4_count_1 (by rw [h11]; decide) (by rw [h11]; decide) (off := 116) (by rw [h11]; rfl) (by decide) ?_
                          refine v_aloadn C dX4_count_117 rfl ?_
                          refine f4_0 C dX4_count_118 ?_
                          refine v_iconst C dX4_count_121 (v := 5) (by decide) ?_
                          refine v_iloadn C dX4_count_122 rfl ?_
                          refine v_iadd C dX4_count_123 ?_
                          refine v_bipush C dX4_count_124 (v := 9) (by decide) ?_
                          refine v_isub C dX4_count_126 ?_
                          obtain ⟨h19, hsh⟩ := g_if hsh
                          refine v_ld C (k := 72) (by decide) rfl (gin_in h19) dX4_count_127 ?_
                          obtain rfl := so_1 hsh
                          exact v_iret C dX4_count_128
                        · replace hsh := ite_n h11 hsh
                          by_cases h12 : l1 = (12 : Int32)
                          · replace hsh := ite_p h12 hsh
                            refine v_tabIn C 129 dX4_count_1 (by rw [h12]; decide) (by rw [h12]; decide) (off := 128) (by rw [h12]; rfl) (by decide) ?_
                            refine v_aloadn C dX4_count_129 rfl ?_
                            refine f4_2 C dX4_count_130 ?_
                            obtain rfl := so_1 hsh
                            exact v_iret C dX4_count_133
                          · replace hsh := ite_n h12 hsh
                            by_cases h13 : l1 = (13 : Int32)
                            · replace hsh := ite_p h13 hsh
                              refine v_tabIn C 134 dX4_count_1 (by rw [h13]; decide) (by rw [h13]; decide) (off := 133) (by rw [h13]; rfl) (by decide) ?_
                              refine v_aloadn C dX4_count_134 rfl ?_
                              refine f4_7 C dX4_count_135 ?_
                              obtain rfl := so_1 hsh
                              exact v_iret C dX4_count_138
                            · replace hsh := ite_n h13 hsh
                              refine v_tabOut C 139 dX4_count_1 (by have e0 := ne_toInt h0; have e1 := ne_toInt h1; have e2 := ne_toInt h2; have e3 := ne_toInt h3; have e4 := ne_toInt h4; have e5 := ne_toInt h5; have e6 := ne_toInt h6; have e7 := ne_toInt h7; have e8 := ne_toInt h8; have e9 := ne_toInt h9; have e10 := ne_toInt h10; have e11 := ne_toInt h11; have e12 := ne_toInt h12; have e13 := ne_toInt h13; have w0 : (0 : Int32).toInt = 0 := (by decide); have w1 : (1 : Int32).toInt = 1 := (by decide); have w2 : (2 : Int32).toInt = 2 := (by decide); have w3 : (3 : Int32).toInt = 3 := (by decide); have w4 : (4 : Int32).toInt = 4 := (by decide); have w5 : (5 : Int32).toInt = 5 := (by decide); have w6 : (6 : Int32).toInt = 6 := (by decide); have w7 : (7 : Int32).toInt = 7 := (by decide); have w8 : (8 : Int32).toInt = 8 := (by decide); have w9 : (9 : Int32).toInt = 9 := (by decide); have w10 : (10 : Int32).toInt = 10 := (by decide); have w11 : (11 : Int32).toInt = 11 := (by decide); have w12 : (12 : Int32).toInt = 12 := (by decide); have w13 : (13 : Int32).toInt = 13 := (by decide); omega) (by decide) ?_
                              refine v_bipush C dX4_count_139 (v := -2) (by decide) ?_
                              obtain rfl := so_1 hsh
                              exact v_iret C dX4_count_141
theorem yo_X4_count : yOk yX4_count 1 := ⟨by decide, by decide, by decide +kernel⟩
