def sh_X0_size (G : gG) : Int32 := (G 63 1)
set_option maxRecDepth 100000 in
set_option maxHeartbeats 4000000 in
theorem c_X0_size (l : Launch) (D : va_G) (t : gT) (ad : Nat → Nat) (hI : gI ad) {G : gG} {r0 : Int32} (hsh : sh_X0_size G = r0) : Mi l D t ad yX0_size cX0_size 1 (some .int) (rM 0 0) [.ref (ad 63)] G r0 G := by
  refine m_go hI RX0 rfl (by decide +kernel) ⟨rfl, rfl⟩ (Nat.le_of_ble_eq_true rfl) rfl [some (.ref (ad 63))] rfl (fun p e s m args below meth c C => ?_)
  unfold sh_X0_size at hsh
  refine v_aloadn C dX0_size_0 rfl ?_
  refine f0_1 C dX0_size_1 ?_
  subst hsh
  exact v_iret C dX0_size_4
theorem yo_X0_size : yOk yX0_size 0 := ⟨by decide, by decide, by decide +kernel⟩

def sh_X0_dropOldest_9  (kt34 : Nat → gG → Option (gG)) : Nat → Nat → Int32 → gG → Option (gG)
  | 0, _, _, _ => none
  | n + 1, m1, l2, G => (if (4 : Int32) ≤ l2 then kt34 m1 G else (if gin l2 4 = true then (if gin (l2 - (1 : Int32)) 4 = true then (if isMB ((G 64 (l2).toNatClampNeg).toNatClampNeg) = true then (bng (gu G 64 ((l2 - (1 : Int32))).toNatClampNeg (Int32.ofNat ((G 64 (l2).toNatClampNeg).toNatClampNeg))) fun G4 => sh_X0_dropOldest_9 kt34 n m1 (l2 + 1) G4) else none) else none) else none))
def sh_X0_dropOldest (G : gG) : Option (gG) := (sh_X0_dropOldest_9 (fun m1 G => (if isMB m1 = true then (bng (gu G 64 ((3 : Int32)).toNatClampNeg (Int32.ofNat m1)) fun G7 => (bng (gu G7 63 1 (3 : Int32)) fun G9 => some G9)) else none)) FU ((G 64 ((0 : Int32)).toNatClampNeg).toNatClampNeg) (1 : Int32) G)
set_option maxRecDepth 100000 in
set_option maxHeartbeats 4000000 in
theorem lp_X0_dropOldest_9 {p : Program} {l : Launch} {e : Env} {s : State} {m : MethodId} {args : Array Value} {below : List Frame} {meth : Method} {c : Code} {D : va_G} {t : gT} {ad : Nat → Nat} (C : gC p s m args meth c cX0_dropOldest RX0 3 none (isW ad) D t ad) (hI : gI ad) {G0 : gG} {kt34 : Nat → gG → Option (gG)} (hk34 : ∀ (m1 : Nat) (G : gG) , kt34 m1 G = some G0 → V p l e (rM 0 0) s m args below meth c (isW ad) D t ad 0 0 3 (Qv below D t ad args s G0) G 34 [some (.ref (ad 63)), some (.ref (ad m1)), none] []) : ∀ (n : Nat) (m1 : Nat) (l2 : Int32) (G : gG) , sh_X0_dropOldest_9 kt34 n m1 l2 G = some G0 → V p l e (rM 0 0) s m args below meth c (isW ad) D t ad 0 0 3 (Qv below D t ad args s G0) G 9 [some (.ref (ad 63)), some (.ref (ad m1)), some (.int l2)] [] := by
  intro n
  induction n with
  | zero => intro m1 l2 G hsh; rw [sh_X0_dropOldest_9.eq_1] at hsh; cases hsh
  | succ n ih =>
    intro m1 l2 G hsh
    rw [sh_X0_dropOldest_9.eq_2] at hsh
    refine v_iloadn C dX0_dropOldest_9 rfl ?_
    refine v_iconst C dX0_dropOldest_10 (v := 4) (by decide) ?_
    refine v_ic_ge C 34 dX0_dropOldest_11 (by decide) (fun hc => ?_) (fun hc => ?_)
    · replace hsh := ite_p hc hsh
      exact v_wk (hk34 _ _ hsh) (wk_of (And.intro rfl (And.intro rfl trivial)))
    · replace hsh := ite_n hc hsh
      refine v_aloadn C dX0_dropOldest_14 rfl ?_
      refine f0_0 C dX0_dropOldest_15 ?_
      refine v_iloadn C dX0_dropOldest_18 rfl ?_
      refine v_iconst C dX0_dropOldest_19 (v := 1) (by decide) ?_
      refine v_isub C dX0_dropOldest_20 ?_
      refine v_aloadn C dX0_dropOldest_21 rfl ?_
      refine f0_0 C dX0_dropOldest_22 ?_
      refine v_iloadn C dX0_dropOldest_25 rfl ?_
      obtain ⟨h1, hsh⟩ := g_if hsh
      refine v_ald C (gin_in h1) dX0_dropOldest_26 ?_
      obtain ⟨h2, hsh⟩ := g_if hsh
      obtain ⟨hg3, hsh⟩ := g_if hsh
      refine v_ast C (isMB_m hg3) (gin_in h2) dX0_dropOldest_27 ?_
      obtain ⟨G4, e5, hsh⟩ := bng_e hsh
      refine v_bg e5 ?_
      refine v_iinc C dX0_dropOldest_28 rfl (v := 1) (by decide) (by decide) ?_
      refine v_goto C 9 dX0_dropOldest_31 (by decide) ?_
      exact v_wk (ih _ _ _ hsh) (wk_of (And.intro rfl (And.intro rfl (And.intro rfl trivial))))
set_option maxRecDepth 100000 in
set_option maxHeartbeats 4000000 in
theorem c_X0_dropOldest (l : Launch) (D : va_G) (t : gT) (ad : Nat → Nat) (hI : gI ad) {G : gG} {G0 : gG} (hsh : sh_X0_dropOldest G = some G0) : Mv l D t ad yX0_dropOldest cX0_dropOldest 3 (rM 0 0) [.ref (ad 63)] G G0 := by
  refine m_go hI RX0 rfl (by decide +kernel) ⟨rfl, rfl⟩ (Nat.le_of_ble_eq_true rfl) rfl [some (.ref (ad 63)), none, none] rfl (fun p e s m args below meth c C => ?_)
  unfold sh_X0_dropOldest at hsh
  refine v_aloadn C dX0_dropOldest_0 rfl ?_
  refine f0_0 C dX0_dropOldest_1 ?_
  refine v_iconst C dX0_dropOldest_4 (v := 0) (by decide) ?_
  refine v_ald C (gin_in (by decide)) dX0_dropOldest_5 ?_
  refine v_astoren C dX0_dropOldest_6 (by decide) ?_
  refine v_iconst C dX0_dropOldest_7 (v := 1) (by decide) ?_
  refine v_istoren C dX0_dropOldest_8 (by decide) ?_
  refine v_wk (lp_X0_dropOldest_9 C hI (fun m1 G hsh => ?_) FU _ _ _ hsh) (wk_of (And.intro rfl (And.intro rfl (And.intro rfl trivial))))
  refine v_aloadn C dX0_dropOldest_34 rfl ?_
  refine f0_0 C dX0_dropOldest_35 ?_
  refine v_iconst C dX0_dropOldest_38 (v := 3) (by decide) ?_
  refine v_aloadn C dX0_dropOldest_39 rfl ?_
  obtain ⟨hg6, hsh⟩ := g_if hsh
  refine v_ast C (isMB_m hg6) (gin_in (by decide)) dX0_dropOldest_40 ?_
  obtain ⟨G7, e8, hsh⟩ := bng_e hsh
  refine v_bg e8 ?_
  refine v_aloadn C dX0_dropOldest_41 rfl ?_
  refine v_iconst C dX0_dropOldest_42 (v := 3) (by decide) ?_
  refine p0_1 C dX0_dropOldest_43 ?_
  obtain ⟨G9, e10, hsh⟩ := bng_e hsh
  refine v_bg e10 ?_
  obtain rfl := so_1 hsh
  exact v_vret C dX0_dropOldest_46
theorem yo_X0_dropOldest : yOk yX0_dropOldest 0 := ⟨by decide, by decide, by decide +kernel⟩

def sh_X0_remember_j12 (q1 : Nat) (G : gG) : Option (gG) := (if gin (G 63 1) 4 = true then (if isMB ((G 64 ((G 63 1)).toNatClampNeg).toNatClampNeg) = true then (obv (sh_X1_copyFrom ((G 64 ((G 63 1)).toNatClampNeg).toNatClampNeg) q1 G) fun G4 => (bng (gu G4 63 1 ((G4 63 1) + (1 : Int32))) fun G5 => some G5)) else none) else none)
def sh_X0_remember (q1 : Nat) (G : gG) : Option (gG) := (if (G 63 1) < (4 : Int32) then (sh_X0_remember_j12 q1 G) else (obv (sh_X0_dropOldest G) fun G8 => (sh_X0_remember_j12 q1 G8)))
set_option maxRecDepth 100000 in
set_option maxHeartbeats 4000000 in
theorem c_X0_remember (l : Launch) (D : va_G) (t : gT) (ad : Nat → Nat) (hI : gI ad) {q1 : Nat} (hq1 : isM q1) {G : gG} {G0 : gG} (hsh : sh_X0_remember q1 G = some G0) : Mv l D t ad yX0_remember cX0_remember 2 (rM 2 47) [.ref (ad 63), .ref (ad q1)] G G0 := by
  refine m_go hI RX0 rfl (by decide +kernel) ⟨rfl, rfl⟩ (Nat.le_of_ble_eq_true rfl) rfl [some (.ref (ad 63)), some (.ref (ad q1))] rfl (fun p e s m args below meth c C => ?_)
  unfold sh_X0_remember at hsh
  have hj12 : ∀ (G : gG) , sh_X0_remember_j12 q1 G = some G0 → V p l e (rM 2 47) s m args below meth c (isW ad) D t ad 0 0 2 (Qv below D t ad args s G0) G 12 [some (.ref (ad 63)), some (.ref (ad q1))] [] := by
    intro G hsh
    unfold sh_X0_remember_j12 at hsh
    refine v_aloadn C dX0_remember_12 rfl ?_
    refine f0_0 C dX0_remember_13 ?_
    refine v_aloadn C dX0_remember_16 rfl ?_
    refine f0_1 C dX0_remember_17 ?_
    obtain ⟨h1, hsh⟩ := g_if hsh
    refine v_ald C (gin_in h1) dX0_remember_20 ?_
    refine v_aloadn C dX0_remember_21 rfl ?_
    obtain ⟨hg2, hsh⟩ := g_if hsh
    obtain ⟨G4, e3, hsh⟩ := obv_e hsh
    refine v_callV (nP := 1) (k := ((G 64 ((G 63 1)).toNatClampNeg).toNatClampNeg)) C (isM_lt (f := 0) (isMB_m hg2) (by decide)) (ce_m (isMB_m hg2)) rfl (c_X1_copyFrom l D t ad hI (isMB_m hg2) hq1 e3) k172 k169 k170 k171 k2 yo_X1_copyFrom ⟨Nat.le_of_ble_eq_true rfl, Nat.le_of_ble_eq_true rfl, rfl, rfl, Nat.zero_le _, Nat.zero_le _⟩ rfl rfl (Nat.le_of_ble_eq_true rfl) dX0_remember_22 ?_
    refine v_aloadn C dX0_remember_25 rfl ?_
    refine v_dup C dX0_remember_26 rfl ?_
    refine f0_1 C dX0_remember_27 ?_
    refine v_iconst C dX0_remember_30 (v := 1) (by decide) ?_
    refine v_iadd C dX0_remember_31 ?_
    refine p0_1 C dX0_remember_32 ?_
    obtain ⟨G5, e6, hsh⟩ := bng_e hsh
    refine v_bg e6 ?_
    obtain rfl := so_1 hsh
    exact v_vret C dX0_remember_35
  refine v_aloadn C dX0_remember_0 rfl ?_
  refine f0_1 C dX0_remember_1 ?_
  refine v_iconst C dX0_remember_4 (v := 4) (by decide) ?_
  refine v_ic_lt C 12 dX0_remember_5 (by decide) (fun hc => ?_) (fun hc => ?_)
  · replace hsh := ite_p hc hsh
    exact v_wk (hj12 _ hsh) (wk_of (And.intro rfl (And.intro rfl trivial)))
  · replace hsh := ite_n hc hsh
    refine v_aloadn C dX0_remember_8 rfl ?_
    obtain ⟨G8, e7, hsh⟩ := obv_e hsh
    refine v_callV (nP := 0) (k := 63) C (by decide) rfl rfl (c_X0_dropOldest l D t ad hI  e7) k168 k165 k167 kp0 k3 yo_X0_dropOldest ⟨Nat.le_of_ble_eq_true rfl, Nat.le_of_ble_eq_true rfl, rfl, rfl, Nat.zero_le _, Nat.zero_le _⟩ rfl rfl (Nat.le_of_ble_eq_true rfl) dX0_remember_9 ?_
    exact v_wk (hj12 _ hsh) (wk_of (And.intro rfl (And.intro rfl trivial)))
theorem yo_X0_remember : yOk yX0_remember 1 := ⟨by decide, by decide, by decide +kernel⟩

def sh_X0_takeBack (q1 : Nat) (G : gG) : Option (gG) := (if (G 63 1) ≤ (0 : Int32) then some G else (bng (gu G 63 1 ((G 63 1) - (1 : Int32))) fun G1 => (if gin (G1 63 1) 4 = true then (if isMB ((G1 64 ((G1 63 1)).toNatClampNeg).toNatClampNeg) = true then (obv (sh_X1_copyFrom q1 ((G1 64 ((G1 63 1)).toNatClampNeg).toNatClampNeg) G1) fun G6 => some G6) else none) else none)))
set_option maxRecDepth 100000 in
set_option maxHeartbeats 4000000 in
theorem c_X0_takeBack (l : Launch) (D : va_G) (t : gT) (ad : Nat → Nat) (hI : gI ad) {q1 : Nat} (hq1 : isM q1) {G : gG} {G0 : gG} (hsh : sh_X0_takeBack q1 G = some G0) : Mv l D t ad yX0_takeBack cX0_takeBack 2 (rM 2 47) [.ref (ad 63), .ref (ad q1)] G G0 := by
  refine m_go hI RX0 rfl (by decide +kernel) ⟨rfl, rfl⟩ (Nat.le_of_ble_eq_true rfl) rfl [some (.ref (ad 63)), some (.ref (ad q1))] rfl (fun p e s m args below meth c C => ?_)
  unfold sh_X0_takeBack at hsh
  refine v_aloadn C dX0_takeBack_0 rfl ?_
  refine f0_1 C dX0_takeBack_1 ?_
  refine v_if_le C 30 dX0_takeBack_4 (by decide) (fun hc => ?_) (fun hc => ?_)
  · replace hsh := ite_p hc hsh
    obtain rfl := so_1 hsh
    exact v_vret C dX0_takeBack_30
  · replace hsh := ite_n hc hsh
    refine v_aloadn C dX0_takeBack_7 rfl ?_
    refine v_dup C dX0_takeBack_8 rfl ?_
    refine f0_1 C dX0_takeBack_9 ?_
    refine v_iconst C dX0_takeBack_12 (v := 1) (by decide) ?_
    refine v_isub C dX0_takeBack_13 ?_
    refine p0_1 C dX0_takeBack_14 ?_
    obtain ⟨G1, e2, hsh⟩ := bng_e hsh
    refine v_bg e2 ?_
    refine v_aloadn C dX0_takeBack_17 rfl ?_
    refine v_aloadn C dX0_takeBack_18 rfl ?_
    refine f0_0 C dX0_takeBack_19 ?_
    refine v_aloadn C dX0_takeBack_22 rfl ?_
    refine f0_1 C dX0_takeBack_23 ?_
    obtain ⟨h3, hsh⟩ := g_if hsh
    refine v_ald C (gin_in h3) dX0_takeBack_26 ?_
    obtain ⟨hg4, hsh⟩ := g_if hsh
    obtain ⟨G6, e5, hsh⟩ := obv_e hsh
    refine v_callV (nP := 1) (k := q1) C (isM_lt (f := 0) hq1 (by decide)) (ce_m hq1) rfl (c_X1_copyFrom l D t ad hI hq1 (isMB_m hg4) e5) k172 k169 k170 k171 k2 yo_X1_copyFrom ⟨Nat.le_of_ble_eq_true rfl, Nat.le_of_ble_eq_true rfl, rfl, rfl, Nat.zero_le _, Nat.zero_le _⟩ rfl rfl (Nat.le_of_ble_eq_true rfl) dX0_takeBack_27 ?_
    obtain rfl := so_1 hsh
    exact v_vret C dX0_takeBack_30
theorem yo_X0_takeBack : yOk yX0_takeBack 1 := ⟨by decide, by decide, by decide +kernel⟩

def sh_X2_length (G : gG) : Int32 := (G 65 1)
set_option maxRecDepth 100000 in
set_option maxHeartbeats 4000000 in
theorem c_X2_length (l : Launch) (D : va_G) (t : gT) (ad : Nat → Nat) (hI : gI ad) {G : gG} {r0 : Int32} (hsh : sh_X2_length G = r0) : Mi l D t ad yX2_length cX2_length 1 (some .int) (rM 0 0) [.ref (ad 65)] G r0 G := by
  refine m_go hI RX2 rfl (by decide +kernel) ⟨rfl, rfl⟩ (Nat.le_of_ble_eq_true rfl) rfl [some (.ref (ad 65))] rfl (fun p e s m args below meth c C => ?_)
  unfold sh_X2_length at hsh
  refine v_aloadn C dX2_length_0 rfl ?_
  refine f2_1 C dX2_length_1 ?_
  subst hsh
  exact v_iret C dX2_length_4
theorem yo_X2_length : yOk yX2_length 0 := ⟨by decide, by decide, by decide +kernel⟩

def sh_X2_fault (G : gG) : Int32 := (G 65 2)
set_option maxRecDepth 100000 in
set_option maxHeartbeats 4000000 in
theorem c_X2_fault (l : Launch) (D : va_G) (t : gT) (ad : Nat → Nat) (hI : gI ad) {G : gG} {r0 : Int32} (hsh : sh_X2_fault G = r0) : Mi l D t ad yX2_fault cX2_fault 1 (some .int) (rM 0 0) [.ref (ad 65)] G r0 G := by
  refine m_go hI RX2 rfl (by decide +kernel) ⟨rfl, rfl⟩ (Nat.le_of_ble_eq_true rfl) rfl [some (.ref (ad 65))] rfl (fun p e s m args below meth c C => ?_)
  unfold sh_X2_fault at hsh
  refine v_aloadn C dX2_fault_0 rfl ?_
  refine f2_2 C dX2_fault_1 ?_
  subst hsh
  exact v_iret C dX2_fault_4
theorem yo_X2_fault : yOk yX2_fault 0 := ⟨by decide, by decide, by decide +kernel⟩

def sh_X2_isFull (G : gG) : Int32 := (if (G 65 1) < (60 : Int32) then (0 : Int32) else (1 : Int32))
set_option maxRecDepth 100000 in
set_option maxHeartbeats 4000000 in
theorem c_X2_isFull (l : Launch) (D : va_G) (t : gT) (ad : Nat → Nat) (hI : gI ad) {G : gG} {r0 : Int32} (hsh : sh_X2_isFull G = r0) : Mi l D t ad yX2_isFull cX2_isFull 1 (some .boolean) (rM 0 0) [.ref (ad 65)] G r0 G := by
  refine m_go hI RX2 rfl (by decide +kernel) ⟨rfl, rfl⟩ (Nat.le_of_ble_eq_true rfl) rfl [some (.ref (ad 65))] rfl (fun p e s m args below meth c C => ?_)
  unfold sh_X2_isFull at hsh
  refine v_aloadn C dX2_isFull_0 rfl ?_
  refine f2_1 C dX2_isFull_1 ?_
  refine v_bipush C dX2_isFull_4 (v := 60) (by decide) ?_
  refine v_ic_lt C 13 dX2_isFull_6 (by decide) (fun hc => ?_) (fun hc => ?_)
  · replace hsh := ite_p hc hsh
    refine v_iconst C dX2_isFull_13 (v := 0) (by decide) ?_
    subst hsh
    exact v_zret C (Or.inl rfl) dX2_isFull_14
  · replace hsh := ite_n hc hsh
    refine v_iconst C dX2_isFull_9 (v := 1) (by decide) ?_
    refine v_goto C 14 dX2_isFull_10 (by decide) ?_
    subst hsh
    exact v_zret C (Or.inr rfl) dX2_isFull_14
theorem nb_X2_isFull {G : gG}  : nb (sh_X2_isFull G) := by
  unfold sh_X2_isFull
  repeat' split
  all_goals first | exact Or.inl rfl | exact Or.inr rfl | exact nb_X3_holds
theorem yo_X2_isFull : yOk yX2_isFull 0 := ⟨by decide, by decide, by decide +kernel⟩

def sh_X2_append (l1 : Int32) (G : gG) : Option (gG) := (if (60 : Int32) ≤ (G 65 1) then some G else (if gin (G 65 1) 60 = true then (bng (gu G 66 ((G 65 1)).toNatClampNeg (vp_nar .char l1)) fun G2 => (bng (gu G2 65 1 ((G2 65 1) + (1 : Int32))) fun G4 => some G4)) else none))
set_option maxRecDepth 100000 in
set_option maxHeartbeats 4000000 in
theorem c_X2_append (l : Launch) (D : va_G) (t : gT) (ad : Nat → Nat) (hI : gI ad) {l1 : Int32} {G : gG} {G0 : gG} (hsh : sh_X2_append l1 G = some G0) : Mv l D t ad yX2_append cX2_append 2 (rM 0 0) [.ref (ad 65), .int l1] G G0 := by
  refine m_go hI RX2 rfl (by decide +kernel) ⟨rfl, rfl⟩ (Nat.le_of_ble_eq_true rfl) rfl [some (.ref (ad 65)), some (.int l1)] rfl (fun p e s m args below meth c C => ?_)
  unfold sh_X2_append at hsh
  refine v_aloadn C dX2_append_0 rfl ?_
  refine f2_1 C dX2_append_1 ?_
  refine v_bipush C dX2_append_4 (v := 60) (by decide) ?_
  refine v_ic_ge C 29 dX2_append_6 (by decide) (fun hc => ?_) (fun hc => ?_)
  · replace hsh := ite_p hc hsh
    obtain rfl := so_1 hsh
    exact v_vret C dX2_append_29
  · replace hsh := ite_n hc hsh
    refine v_aloadn C dX2_append_9 rfl ?_
    refine f2_0 C dX2_append_10 ?_
    refine v_aloadn C dX2_append_13 rfl ?_
    refine f2_1 C dX2_append_14 ?_
    refine v_iloadn C dX2_append_17 rfl ?_
    obtain ⟨h1, hsh⟩ := g_if hsh
    refine v_cst C (k := 66) (by decide) (fun _ => rfl) (gin_in h1) dX2_append_18 ?_
    obtain ⟨G2, e3, hsh⟩ := bng_e hsh
    refine v_bg e3 ?_
    refine v_aloadn C dX2_append_19 rfl ?_
    refine v_dup C dX2_append_20 rfl ?_
    refine f2_1 C dX2_append_21 ?_
    refine v_iconst C dX2_append_24 (v := 1) (by decide) ?_
    refine v_iadd C dX2_append_25 ?_
    refine p2_1 C dX2_append_26 ?_
    obtain ⟨G4, e5, hsh⟩ := bng_e hsh
    refine v_bg e5 ?_
    obtain rfl := so_1 hsh
    exact v_vret C dX2_append_29
theorem yo_X2_append : yOk yX2_append 1 := ⟨by decide, by decide, by decide +kernel⟩

def sh_X2_empty (G : gG) : Option (gG) := (bng (gu G 65 1 (0 : Int32)) fun G1 => some G1)
set_option maxRecDepth 100000 in
set_option maxHeartbeats 4000000 in
theorem c_X2_empty (l : Launch) (D : va_G) (t : gT) (ad : Nat → Nat) (hI : gI ad) {G : gG} {G0 : gG} (hsh : sh_X2_empty G = some G0) : Mv l D t ad yX2_empty cX2_empty 1 (rM 0 0) [.ref (ad 65)] G G0 := by
  refine m_go hI RX2 rfl (by decide +kernel) ⟨rfl, rfl⟩ (Nat.le_of_ble_eq_true rfl) rfl [some (.ref (ad 65))] rfl (fun p e s m args below meth c C => ?_)
  unfold sh_X2_empty at hsh
  refine v_aloadn C dX2_empty_0 rfl ?_
  refine v_iconst C dX2_empty_1 (v := 0) (by decide) ?_
  refine p2_1 C dX2_empty_2 ?_
  obtain ⟨G1, e2, hsh⟩ := bng_e hsh
  refine v_bg e2 ?_
  obtain rfl := so_1 hsh
  exact v_vret C dX2_empty_5
theorem yo_X2_empty : yOk yX2_empty 0 := ⟨by decide, by decide, by decide +kernel⟩

def sh_X2_build_6 (q1 : Nat) (kt43 : gG → Option (gG)) : Nat → Int32 → gG → Option (gG)
  | 0, _, _ => none
  | n + 1, l2, G => (if (16 : Int32) ≤ l2 then kt43  G else (if (G 65 5) ≤ l2 then kt43  G else (if gin l2 16 = true then (obv (sh_X1_place q1 l2 (G 67 (l2).toNatClampNeg) (G 68 (l2).toNatClampNeg) G) fun G5 => sh_X2_build_6 q1 kt43 n (l2 + 1) G5) else none)))
def sh_X2_build_55 (q1 : Nat) (kt87 : Int32 → gG → Option (gG)) : Nat → Int32 → Int32 → gG → Option (gG)
  | 0, _, _, _ => none
  | n + 1, l2, l3, G => (if (16 : Int32) ≤ l3 then kt87 l2 G else (if gin l2 16 = true then (if (sh_X3_holds (G 69 (l2).toNatClampNeg) l3) = (0 : Int32) then sh_X2_build_55 q1 kt87 n l2 (l3 + 1) G else (obv (sh_X1_changeLink q1 l2 l3 (1 : Int32) G) fun G8 => sh_X2_build_55 q1 kt87 n l2 (l3 + 1) G8)) else none))
def sh_X2_build_45 (q1 : Nat) (kt93 : gG → Option (gG)) : Nat → Int32 → gG → Option (gG)
  | 0, _, _ => none
  | n + 1, l2, G => (if (16 : Int32) ≤ l2 then kt93  G else (sh_X2_build_55 q1 (fun l2 G => sh_X2_build_45 q1 kt93 n (l2 + 1) G) FU l2 (l2 + (1 : Int32)) G))
def sh_X2_build (q1 : Nat) (G : gG) : Option (gG) := (obv (sh_X1_removeAll q1 G) fun G2 => (sh_X2_build_6 q1 (fun G => (sh_X2_build_45 q1 (fun G => (obv (sh_X1_fitPhases q1 G) fun G10 => some G10)) FU (0 : Int32) G)) FU (0 : Int32) G2))
set_option maxRecDepth 100000 in
set_option maxHeartbeats 4000000 in
theorem lp_X2_build_6 {p : Program} {l : Launch} {e : Env} {s : State} {m : MethodId} {args : Array Value} {below : List Frame} {meth : Method} {c : Code} {D : va_G} {t : gT} {ad : Nat → Nat} (C : gC p s m args meth c cX2_build RX2 4 none (isW ad) D t ad) (hI : gI ad) {q1 : Nat} (hq1 : isM q1) {G0 : gG} {kt43 : gG → Option (gG)} (hk43 : ∀ (G : gG) , kt43 G = some G0 → V p l e (rM 2 42) s m args below meth c (isW ad) D t ad 0 0 4 (Qv below D t ad args s G0) G 43 [some (.ref (ad 65)), some (.ref (ad q1)), none, none] []) : ∀ (n : Nat) (l2 : Int32) (G : gG) , sh_X2_build_6 q1 kt43 n l2 G = some G0 → V p l e (rM 2 42) s m args below meth c (isW ad) D t ad 0 0 4 (Qv below D t ad args s G0) G 6 [some (.ref (ad 65)), some (.ref (ad q1)), some (.int l2), none] [] := by
  intro n
  induction n with
  | zero => intro l2 G hsh; rw [sh_X2_build_6.eq_1] at hsh; cases hsh
  | succ n ih =>
    intro l2 G hsh
    rw [sh_X2_build_6.eq_2] at hsh
    refine v_iloadn C dX2_build_6 rfl ?_
    refine v_bipush C dX2_build_7 (v := 16) (by decide) ?_
    refine v_ic_ge C 43 dX2_build_9 (by decide) (fun hc => ?_) (fun hc => ?_)
    · replace hsh := ite_p hc hsh
      exact v_wk (hk43  _ hsh) (wk_of (And.intro rfl (And.intro rfl trivial)))
    · replace hsh := ite_n hc hsh
      refine v_iloadn C dX2_build_12 rfl ?_
      refine v_aloadn C dX2_build_13 rfl ?_
      refine f2_5 C dX2_build_14 ?_
      refine v_ic_ge C 43 dX2_build_17 (by decide) (fun hc => ?_) (fun hc => ?_)
      · replace hsh := ite_p hc hsh
        exact v_wk (hk43  _ hsh) (wk_of (And.intro rfl (And.intro rfl trivial)))
      · replace hsh := ite_n hc hsh
        refine v_aloadn C dX2_build_20 rfl ?_
        refine v_iloadn C dX2_build_21 rfl ?_
        refine v_aloadn C dX2_build_22 rfl ?_
        refine f2_3 C dX2_build_23 ?_
        refine v_iloadn C dX2_build_26 rfl ?_
        obtain ⟨h3, hsh⟩ := g_if hsh
        refine v_ld C (k := 67) (by decide) rfl (gin_in h3) dX2_build_27 ?_
        refine v_aloadn C dX2_build_28 rfl ?_
        refine f2_4 C dX2_build_29 ?_
        refine v_iloadn C dX2_build_32 rfl ?_
        refine v_ld C (k := 68) (by decide) rfl (gin_in h3) dX2_build_33 ?_
        obtain ⟨G5, e4, hsh⟩ := obv_e hsh
        refine v_callV (nP := 3) (k := q1) C (isM_lt (f := 0) hq1 (by decide)) (ce_m hq1) rfl (c_X1_place l D t ad hI hq1 e4) k179 k388 k177 k178 k2 yo_X1_place ⟨Nat.le_of_ble_eq_true rfl, Nat.le_of_ble_eq_true rfl, rfl, rfl, Nat.zero_le _, Nat.zero_le _⟩ rfl rfl (Nat.le_of_ble_eq_true rfl) dX2_build_34 ?_
        refine v_iinc C dX2_build_37 rfl (v := 1) (by decide) (by decide) ?_
        refine v_goto C 6 dX2_build_40 (by decide) ?_
        exact v_wk (ih _ _ hsh) (wk_of (And.intro rfl (And.intro rfl (And.intro rfl trivial))))
set_option maxRecDepth 100000 in
set_option maxHeartbeats 4000000 in
theorem lp_X2_build_55 {p : Program} {l : Launch} {e : Env} {s : State} {m : MethodId} {args : Array Value} {below : List Frame} {meth : Method} {c : Code} {D : va_G} {t : gT} {ad : Nat → Nat} (C : gC p s m args meth c cX2_build RX2 4 none (isW ad) D t ad) (hI : gI ad) {q1 : Nat} (hq1 : isM q1) {G0 : gG} {kt87 : Int32 → gG → Option (gG)} (hk87 : ∀ (l2 : Int32) (G : gG) , kt87 l2 G = some G0 → V p l e (rM 2 42) s m args below meth c (isW ad) D t ad 0 0 4 (Qv below D t ad args s G0) G 87 [some (.ref (ad 65)), some (.ref (ad q1)), some (.int l2), none] []) : ∀ (n : Nat) (l2 : Int32) (l3 : Int32) (G : gG) , sh_X2_build_55 q1 kt87 n l2 l3 G = some G0 → V p l e (rM 2 42) s m args below meth c (isW ad) D t ad 0 0 4 (Qv below D t ad args s G0) G 55 [some (.ref (ad 65)), some (.ref (ad q1)), some (.int l2), some (.int l3)] [] := by
  intro n
  induction n with
  | zero => intro l2 l3 G hsh; rw [sh_X2_build_55.eq_1] at hsh; cases hsh
  | succ n ih =>
    intro l2 l3 G hsh
    rw [sh_X2_build_55.eq_2] at hsh
    refine v_iloadn C dX2_build_55 rfl ?_
    refine v_bipush C dX2_build_56 (v := 16) (by decide) ?_
    refine v_ic_ge C 87 dX2_build_58 (by decide) (fun hc => ?_) (fun hc => ?_)
    · replace hsh := ite_p hc hsh
      exact v_wk (hk87 _ _ hsh) (wk_of (And.intro rfl (And.intro rfl (And.intro rfl trivial))))
    · replace hsh := ite_n hc hsh
      refine v_aloadn C dX2_build_61 rfl ?_
      refine f2_6 C dX2_build_62 ?_
      refine v_iloadn C dX2_build_65 rfl ?_
      obtain ⟨h6, hsh⟩ := g_if hsh
      refine v_ld C (k := 69) (by decide) rfl (gin_in h6) dX2_build_66 ?_
      refine v_iloadn C dX2_build_67 rfl ?_
      refine v_callN (nP := 2) C (c_X3_holds l D t ad hI  (G := G) rfl) k160 (gc_x C).2.2.2.2.1.2.2.2.2.2.2 k159 k1 yo_X3_holds ⟨Nat.le_of_ble_eq_true rfl, Nat.le_of_ble_eq_true rfl, rfl, rfl, Nat.zero_le _, Nat.zero_le _⟩ rfl rfl (Nat.le_of_ble_eq_true rfl) dX2_build_68 ?_
      refine v_if_eq C 81 dX2_build_71 (by decide) (fun hc => ?_) (fun hc => ?_)
      · replace hsh := ite_p hc hsh
        refine v_iinc C dX2_build_81 rfl (v := 1) (by decide) (by decide) ?_
        refine v_goto C 55 dX2_build_84 (by decide) ?_
        exact v_wk (ih _ _ _ hsh) (wk_of (And.intro rfl (And.intro rfl (And.intro rfl (And.intro rfl trivial)))))
      · replace hsh := ite_n hc hsh
        refine v_aloadn C dX2_build_74 rfl ?_
        refine v_iloadn C dX2_build_75 rfl ?_
        refine v_iloadn C dX2_build_76 rfl ?_
        refine v_iconst C dX2_build_77 (v := 1) (by decide) ?_
        obtain ⟨G8, e7, hsh⟩ := obv_e hsh
        refine v_callV (nP := 3) (k := q1) C (isM_lt (f := 0) hq1 (by decide)) (ce_m hq1) rfl (c_X1_changeLink l D t ad hI hq1 e7) k225 k390 k223 k224 k2 yo_X1_changeLink ⟨Nat.le_of_ble_eq_true rfl, Nat.le_of_ble_eq_true rfl, rfl, rfl, Nat.zero_le _, Nat.zero_le _⟩ rfl rfl (Nat.le_of_ble_eq_true rfl) dX2_build_78 ?_
        refine v_iinc C dX2_build_81 rfl (v := 1) (by decide) (by decide) ?_
        refine v_goto C 55 dX2_build_84 (by decide) ?_
        exact v_wk (ih _ _ _ hsh) (wk_of (And.intro rfl (And.intro rfl (And.intro rfl (And.intro rfl trivial)))))
set_option maxRecDepth 100000 in
set_option maxHeartbeats 4000000 in
theorem lp_X2_build_45 {p : Program} {l : Launch} {e : Env} {s : State} {m : MethodId} {args : Array Value} {below : List Frame} {meth : Method} {c : Code} {D : va_G} {t : gT} {ad : Nat → Nat} (C : gC p s m args meth c cX2_build RX2 4 none (isW ad) D t ad) (hI : gI ad) {q1 : Nat} (hq1 : isM q1) {G0 : gG} {kt93 : gG → Option (gG)} (hk93 : ∀ (G : gG) , kt93 G = some G0 → V p l e (rM 2 42) s m args below meth c (isW ad) D t ad 0 0 4 (Qv below D t ad args s G0) G 93 [none, some (.ref (ad q1)), none, none] []) : ∀ (n : Nat) (l2 : Int32) (G : gG) , sh_X2_build_45 q1 kt93 n l2 G = some G0 → V p l e (rM 2 42) s m args below meth c (isW ad) D t ad 0 0 4 (Qv below D t ad args s G0) G 45 [some (.ref (ad 65)), some (.ref (ad q1)), some (.int l2), none] [] := by
  intro n
  induction n with
  | zero => intro l2 G hsh; rw [sh_X2_build_45.eq_1] at hsh; cases hsh
  | succ n ih =>
    intro l2 G hsh
    rw [sh_X2_build_45.eq_2] at hsh
    refine v_iloadn C dX2_build_45 rfl ?_
    refine v_bipush C dX2_build_46 (v := 16) (by decide) ?_
    refine v_ic_ge C 93 dX2_build_48 (by decide) (fun hc => ?_) (fun hc => ?_)
    · replace hsh := ite_p hc hsh
      exact v_wk (hk93  _ hsh) (wk_of (And.intro rfl trivial))
    · replace hsh := ite_n hc hsh
      refine v_iloadn C dX2_build_51 rfl ?_
      refine v_iconst C dX2_build_52 (v := 1) (by decide) ?_
      refine v_iadd C dX2_build_53 ?_
      refine v_istoren C dX2_build_54 (by decide) ?_
      refine v_wk (lp_X2_build_55 C hI hq1 (fun l2 G hsh => ?_) FU _ _ _ hsh) (wk_of (And.intro rfl (And.intro rfl (And.intro rfl (And.intro rfl trivial)))))
      refine v_iinc C dX2_build_87 rfl (v := 1) (by decide) (by decide) ?_
      refine v_goto C 45 dX2_build_90 (by decide) ?_
      exact v_wk (ih _ _ hsh) (wk_of (And.intro rfl (And.intro rfl (And.intro rfl trivial))))
set_option maxRecDepth 100000 in
set_option maxHeartbeats 4000000 in
theorem c_X2_build (l : Launch) (D : va_G) (t : gT) (ad : Nat → Nat) (hI : gI ad) {q1 : Nat} (hq1 : isM q1) {G : gG} {G0 : gG} (hsh : sh_X2_build q1 G = some G0) : Mv l D t ad yX2_build cX2_build 4 (rM 2 42) [.ref (ad 65), .ref (ad q1)] G G0 := by
  refine m_go hI RX2 rfl (by decide +kernel) ⟨rfl, rfl⟩ (Nat.le_of_ble_eq_true rfl) rfl [some (.ref (ad 65)), some (.ref (ad q1)), none, none] rfl (fun p e s m args below meth c C => ?_)
  unfold sh_X2_build at hsh
  refine v_aloadn C dX2_build_0 rfl ?_
  obtain ⟨G2, e1, hsh⟩ := obv_e hsh
  refine v_callV (nP := 0) (k := q1) C (isM_lt (f := 0) hq1 (by decide)) (ce_m hq1) rfl (c_X1_removeAll l D t ad hI hq1 e1) k387 k384 k385 k386 k2 yo_X1_removeAll ⟨Nat.le_of_ble_eq_true rfl, Nat.le_of_ble_eq_true rfl, rfl, rfl, Nat.zero_le _, Nat.zero_le _⟩ rfl rfl (Nat.le_of_ble_eq_true rfl) dX2_build_1 ?_
  refine v_iconst C dX2_build_4 (v := 0) (by decide) ?_
  refine v_istoren C dX2_build_5 (by decide) ?_
  refine v_wk (lp_X2_build_6 C hI hq1 (fun G hsh => ?_) FU _ _ hsh) (wk_of (And.intro rfl (And.intro rfl (And.intro rfl trivial))))
  refine v_iconst C dX2_build_43 (v := 0) (by decide) ?_
  refine v_istoren C dX2_build_44 (by decide) ?_
  refine v_wk (lp_X2_build_45 C hI hq1 (fun G hsh => ?_) FU _ _ hsh) (wk_of (And.intro rfl (And.intro rfl (And.intro rfl trivial))))
  refine v_aloadn C dX2_build_93 rfl ?_
  obtain ⟨G10, e9, hsh⟩ := obv_e hsh
  refine v_callV (nP := 0) (k := q1) C (isM_lt (f := 0) hq1 (by decide)) (ce_m hq1) rfl (c_X1_fitPhases l D t ad hI hq1 e9) k257 k391 k255 k256 k2 yo_X1_fitPhases ⟨Nat.le_of_ble_eq_true rfl, Nat.le_of_ble_eq_true rfl, rfl, rfl, Nat.zero_le _, Nat.zero_le _⟩ rfl rfl (Nat.le_of_ble_eq_true rfl) dX2_build_94 ?_
  obtain rfl := so_1 hsh
  exact v_vret C dX2_build_97
theorem yo_X2_build : yOk yX2_build 1 := ⟨by decide, by decide, by decide +kernel⟩

def sh_X2_current (G : gG) : Option (Int32) := (if (G 65 2) < (0 : Int32) then some (-1 : Int32) else (if (G 65 1) ≤ (G 65 2) then some (-1 : Int32) else (if (G 65 2) < (60 : Int32) then (if gin (G 65 2) 60 = true then some (G 66 ((G 65 2)).toNatClampNeg) else none) else some (-1 : Int32))))
set_option maxRecDepth 100000 in
set_option maxHeartbeats 4000000 in
theorem c_X2_current (l : Launch) (D : va_G) (t : gT) (ad : Nat → Nat) (hI : gI ad) {G : gG} {r0 : Int32} (hsh : sh_X2_current G = some r0) : Mi l D t ad yX2_current cX2_current 1 (some .int) (rM 0 0) [.ref (ad 65)] G r0 G := by
  refine m_go hI RX2 rfl (by decide +kernel) ⟨rfl, rfl⟩ (Nat.le_of_ble_eq_true rfl) rfl [some (.ref (ad 65))] rfl (fun p e s m args below meth c C => ?_)
  unfold sh_X2_current at hsh
  refine v_aloadn C dX2_current_0 rfl ?_
  refine f2_2 C dX2_current_1 ?_
  refine v_if_lt C 27 dX2_current_4 (by decide) (fun hc => ?_) (fun hc => ?_)
  · replace hsh := ite_p hc hsh
    refine v_iconst C dX2_current_27 (v := -1) (by decide) ?_
    obtain rfl := so_1 hsh
    exact v_iret C dX2_current_28
  · replace hsh := ite_n hc hsh
    refine v_aloadn C dX2_current_7 rfl ?_
    refine f2_2 C dX2_current_8 ?_
    refine v_aloadn C dX2_current_11 rfl ?_
    refine f2_1 C dX2_current_12 ?_
    refine v_ic_ge C 27 dX2_current_15 (by decide) (fun hc => ?_) (fun hc => ?_)
    · replace hsh := ite_p hc hsh
      refine v_iconst C dX2_current_27 (v := -1) (by decide) ?_
      obtain rfl := so_1 hsh
      exact v_iret C dX2_current_28
    · replace hsh := ite_n hc hsh
      refine v_aloadn C dX2_current_18 rfl ?_
      refine f2_2 C dX2_current_19 ?_
      refine v_bipush C dX2_current_22 (v := 60) (by decide) ?_
      refine v_ic_lt C 29 dX2_current_24 (by decide) (fun hc => ?_) (fun hc => ?_)
      · replace hsh := ite_p hc hsh
        refine v_aloadn C dX2_current_29 rfl ?_
        refine f2_0 C dX2_current_30 ?_
        refine v_aloadn C dX2_current_33 rfl ?_
        refine f2_2 C dX2_current_34 ?_
        obtain ⟨h1, hsh⟩ := g_if hsh
        refine v_cld C (k := 66) (by decide) rfl (gin_in h1) dX2_current_37 ?_
        obtain rfl := so_1 hsh
        exact v_iret C dX2_current_38
      · replace hsh := ite_n hc hsh
        refine v_iconst C dX2_current_27 (v := -1) (by decide) ?_
        obtain rfl := so_1 hsh
        exact v_iret C dX2_current_28
theorem yo_X2_current : yOk yX2_current 0 := ⟨by decide, by decide, by decide +kernel⟩

def sh_X2_begins_j41 (kt62 : Option (Int32)) (self22 : Int32 → Int32 → Int32 → Int32 → Int32 → Option (Int32)) (l1 : Int32) (l2 : Int32) (l3 : Int32) (l4 : Int32) (l5 : Int32) : Option (Int32) := self22 l1 l2 (l3 * (10 : Int32)) ((l4 * (10 : Int32)) + (9 : Int32)) (l5 + 1)
def sh_X2_begins_22  (kt62 : Option (Int32)) : Nat → Int32 → Int32 → Int32 → Int32 → Int32 → Option (Int32)
  | 0, _, _, _, _, _ => none
  | n + 1, l1, l2, l3, l4, l5 => (if (3 : Int32) ≤ l5 then kt62 else (if l2 < l3 then (sh_X2_begins_j41 kt62 (sh_X2_begins_22 kt62 n) l1 l2 l3 l4 l5) else (if l4 < l1 then (sh_X2_begins_j41 kt62 (sh_X2_begins_22 kt62 n) l1 l2 l3 l4 l5) else some (1 : Int32))))
def sh_X2_begins (l0 : Int32) (l1 : Int32) (l2 : Int32) : Option (Int32) := (if l0 = (0 : Int32) then (if l1 = (0 : Int32) then some (1 : Int32) else some (0 : Int32)) else (sh_X2_begins_22 (some (0 : Int32)) FU l1 l2 l0 l0 (0 : Int32)))
set_option maxRecDepth 100000 in
set_option maxHeartbeats 4000000 in
theorem lp_X2_begins_22 {p : Program} {l : Launch} {e : Env} {s : State} {m : MethodId} {args : Array Value} {below : List Frame} {meth : Method} {c : Code} {D : va_G} {t : gT} {ad : Nat → Nat} (C : gC p s m args meth c cX2_begins RX2 6 (some .boolean) (isW ad) D t ad) (hI : gI ad) {G : gG} {r0 : Int32} {kt62 : Option (Int32)} (hk62 : kt62 = some r0 → V p l e (rM 0 0) s m args below meth c (isW ad) D t ad 0 0 6 (Qi below D t ad args s r0 G) G 62 [none, none, none, none, none, none] []) : ∀ (n : Nat) (l1 : Int32) (l2 : Int32) (l3 : Int32) (l4 : Int32) (l5 : Int32) , sh_X2_begins_22 kt62 n l1 l2 l3 l4 l5 = some r0 → V p l e (rM 0 0) s m args below meth c (isW ad) D t ad 0 0 6 (Qi below D t ad args s r0 G) G 22 [none, some (.int l1), some (.int l2), some (.int l3), some (.int l4), some (.int l5)] [] := by
  intro n
  induction n with
  | zero => intro l1 l2 l3 l4 l5 hsh; rw [sh_X2_begins_22.eq_1] at hsh; cases hsh
  | succ n ih =>
    intro l1 l2 l3 l4 l5 hsh
    rw [sh_X2_begins_22.eq_2] at hsh
    have hj41 : ∀ (l1 : Int32) (l2 : Int32) (l3 : Int32) (l4 : Int32) (l5 : Int32) , sh_X2_begins_j41 kt62 (sh_X2_begins_22 kt62 n) l1 l2 l3 l4 l5 = some r0 → V p l e (rM 0 0) s m args below meth c (isW ad) D t ad 0 0 6 (Qi below D t ad args s r0 G) G 41 [none, some (.int l1), some (.int l2), some (.int l3), some (.int l4), some (.int l5)] [] := by
      intro l1 l2 l3 l4 l5 hsh
      unfold sh_X2_begins_j41 at hsh
      refine v_iloadn C dX2_begins_41 rfl ?_
      refine v_bipush C dX2_begins_42 (v := 10) (by decide) ?_
      refine v_imul C dX2_begins_44 ?_
      refine v_istoren C dX2_begins_45 (by decide) ?_
      refine v_iload C dX2_begins_46 rfl ?_
      refine v_bipush C dX2_begins_48 (v := 10) (by decide) ?_
      refine v_imul C dX2_begins_50 ?_
      refine v_bipush C dX2_begins_51 (v := 9) (by decide) ?_
      refine v_iadd C dX2_begins_53 ?_
      refine v_istore C dX2_begins_54 (by decide) ?_
      refine v_iinc C dX2_begins_56 rfl (v := 1) (by decide) (by decide) ?_
      refine v_goto C 22 dX2_begins_59 (by decide) ?_
      exact v_wk (ih _ _ _ _ _ hsh) (wk_of (And.intro rfl (And.intro rfl (And.intro rfl (And.intro rfl (And.intro rfl trivial))))))
    refine v_iload C dX2_begins_22 rfl ?_
    refine v_iconst C dX2_begins_24 (v := 3) (by decide) ?_
    refine v_ic_ge C 62 dX2_begins_25 (by decide) (fun hc => ?_) (fun hc => ?_)
    · replace hsh := ite_p hc hsh
      exact v_wk (hk62  hsh) (wk_of trivial)
    · replace hsh := ite_n hc hsh
      refine v_iloadn C dX2_begins_28 rfl ?_
      refine v_iloadn C dX2_begins_29 rfl ?_
      refine v_ic_gt C 41 dX2_begins_30 (by decide) (fun hc => ?_) (fun hc => ?_)
      · replace hsh := ite_p hc hsh
        exact v_wk (hj41 _ _ _ _ _ hsh) (wk_of (And.intro rfl (And.intro rfl (And.intro rfl (And.intro rfl (And.intro rfl trivial))))))
      · replace hsh := ite_n hc hsh
        refine v_iload C dX2_begins_33 rfl ?_
        refine v_iloadn C dX2_begins_35 rfl ?_
        refine v_ic_lt C 41 dX2_begins_36 (by decide) (fun hc => ?_) (fun hc => ?_)
        · replace hsh := ite_p hc hsh
          exact v_wk (hj41 _ _ _ _ _ hsh) (wk_of (And.intro rfl (And.intro rfl (And.intro rfl (And.intro rfl (And.intro rfl trivial))))))
        · replace hsh := ite_n hc hsh
          refine v_iconst C dX2_begins_39 (v := 1) (by decide) ?_
          obtain rfl := so_1 hsh
          exact v_zret C (Or.inr rfl) dX2_begins_40
set_option maxRecDepth 100000 in
set_option maxHeartbeats 4000000 in
theorem c_X2_begins (l : Launch) (D : va_G) (t : gT) (ad : Nat → Nat) (hI : gI ad) {l0 : Int32} {l1 : Int32} {l2 : Int32} {G : gG} {r0 : Int32} (hsh : sh_X2_begins l0 l1 l2 = some r0) : Mi l D t ad yX2_begins cX2_begins 6 (some .boolean) (rM 0 0) [.int l0, .int l1, .int l2] G r0 G := by
  refine m_go hI RX2 rfl (by decide +kernel) ⟨rfl, rfl⟩ (Nat.le_of_ble_eq_true rfl) rfl [some (.int l0), some (.int l1), some (.int l2), none, none, none] rfl (fun p e s m args below meth c C => ?_)
  unfold sh_X2_begins at hsh
  refine v_iloadn C dX2_begins_0 rfl ?_
  refine v_if_ne C 14 dX2_begins_1 (by decide) (fun hc => ?_) (fun hc => ?_)
  · replace hsh := ite_n hc hsh
    refine v_iloadn C dX2_begins_14 rfl ?_
    refine v_istoren C dX2_begins_15 (by decide) ?_
    refine v_iloadn C dX2_begins_16 rfl ?_
    refine v_istore C dX2_begins_17 (by decide) ?_
    refine v_iconst C dX2_begins_19 (v := 0) (by decide) ?_
    refine v_istore C dX2_begins_20 (by decide) ?_
    refine v_wk (lp_X2_begins_22 C hI (fun hsh => ?_) FU _ _ _ _ _ hsh) (wk_of (And.intro rfl (And.intro rfl (And.intro rfl (And.intro rfl (And.intro rfl trivial))))))
    refine v_iconst C dX2_begins_62 (v := 0) (by decide) ?_
    obtain rfl := so_1 hsh
    exact v_zret C (Or.inl rfl) dX2_begins_63
  · replace hsh := ite_p hc hsh
    refine v_iloadn C dX2_begins_4 rfl ?_
    refine v_if_ne C 12 dX2_begins_5 (by decide) (fun hc => ?_) (fun hc => ?_)
    · replace hsh := ite_n hc hsh
      refine v_iconst C dX2_begins_12 (v := 0) (by decide) ?_
      obtain rfl := so_1 hsh
      exact v_zret C (Or.inl rfl) dX2_begins_13
    · replace hsh := ite_p hc hsh
      refine v_iconst C dX2_begins_8 (v := 1) (by decide) ?_
      refine v_goto C 13 dX2_begins_9 (by decide) ?_
      obtain rfl := so_1 hsh
      exact v_zret C (Or.inr rfl) dX2_begins_13
theorem yo_X2_begins : yOk yX2_begins 3 := ⟨by decide, by decide, by decide +kernel⟩

def sh_X2_parseNumber_j56 (kt89 : Int32 → Int32 → gG → Option (Int32 × gG)) (self5 : Int32 → Int32 → Int32 → Int32 → gG → Option (Int32 × gG)) (l1 : Int32) (l2 : Int32) (l4 : Int32) (x0 : Int32) (G : gG) : Option (Int32 × gG) := (obp (sh_X2_begins x0 l1 l2) fun r4 => (if r4 = (0 : Int32) then some ((-1 : Int32), G) else (bng (gu G 65 2 ((G 65 2) + (1 : Int32))) fun G5 => self5 l1 l2 x0 (l4 + 1) G5)))
def sh_X2_parseNumber_5  (kt89 : Int32 → Int32 → gG → Option (Int32 × gG)) : Nat → Int32 → Int32 → Int32 → Int32 → gG → Option (Int32 × gG)
  | 0, _, _, _, _, _ => none
  | n + 1, l1, l2, l3, l4, G => (if (3 : Int32) ≤ l4 then kt89 l1 l3 G else (obp (sh_X2_current G) fun r2 => (if (r2 - (48 : Int32)) < (0 : Int32) then kt89 l1 l3 G else (if (9 : Int32) < (r2 - (48 : Int32)) then kt89 l1 l3 G else (if l3 = (0 : Int32) then kt89 l1 l3 G else (if l4 = (0 : Int32) then (sh_X2_parseNumber_j56 kt89 (sh_X2_parseNumber_5 kt89 n) l1 l2 l4 (r2 - (48 : Int32)) G) else (sh_X2_parseNumber_j56 kt89 (sh_X2_parseNumber_5 kt89 n) l1 l2 l4 ((l3 * (10 : Int32)) + (r2 - (48 : Int32))) G)))))))
def sh_X2_parseNumber_j89 (l1 : Int32) (l3 : Int32) (G : gG) : Option (Int32 × gG) := (if l1 ≤ l3 then some (l3, G) else some ((-1 : Int32), G))
def sh_X2_parseNumber (l1 : Int32) (l2 : Int32) (G : gG) : Option (Int32 × gG) := (sh_X2_parseNumber_5 (fun l1 l3 G => (sh_X2_parseNumber_j89 l1 l3 G)) FU l1 l2 (-1 : Int32) (0 : Int32) G)
set_option maxRecDepth 100000 in
set_option maxHeartbeats 4000000 in
theorem lp_X2_parseNumber_5 {p : Program} {l : Launch} {e : Env} {s : State} {m : MethodId} {args : Array Value} {below : List Frame} {meth : Method} {c : Code} {D : va_G} {t : gT} {ad : Nat → Nat} (C : gC p s m args meth c cX2_parseNumber RX2 7 (some .int) (isW ad) D t ad) (hI : gI ad) {r0 : Int32} {G0 : gG} {kt89 : Int32 → Int32 → gG → Option (Int32 × gG)} (hk89 : ∀ (l1 : Int32) (l3 : Int32) (G : gG) , kt89 l1 l3 G = some (r0, G0) → V p l e (rM 1 25) s m args below meth c (isW ad) D t ad 0 0 7 (Qi below D t ad args s r0 G0) G 89 [none, some (.int l1), none, some (.int l3), none, none, none] []) : ∀ (n : Nat) (l1 : Int32) (l2 : Int32) (l3 : Int32) (l4 : Int32) (G : gG) , sh_X2_parseNumber_5 kt89 n l1 l2 l3 l4 G = some (r0, G0) → V p l e (rM 1 25) s m args below meth c (isW ad) D t ad 0 0 7 (Qi below D t ad args s r0 G0) G 5 [some (.ref (ad 65)), some (.int l1), some (.int l2), some (.int l3), some (.int l4), none, none] [] := by
  intro n
  induction n with
  | zero => intro l1 l2 l3 l4 G hsh; rw [sh_X2_parseNumber_5.eq_1] at hsh; cases hsh
  | succ n ih =>
    intro l1 l2 l3 l4 G hsh
    rw [sh_X2_parseNumber_5.eq_2] at hsh
    have hj56 : ∀ (l1 : Int32) (l2 : Int32) (l4 : Int32) (x0 : Int32) (G : gG) , sh_X2_parseNumber_j56 kt89 (sh_X2_parseNumber_5 kt89 n) l1 l2 l4 x0 G = some (r0, G0) → V p l e (rM 1 25) s m args below meth c (isW ad) D t ad 0 0 7 (Qi below D t ad args s r0 G0) G 56 [some (.ref (ad 65)), some (.int l1), some (.int l2), none, some (.int l4), none, none] [.int x0] := by
      intro l1 l2 l4 x0 G hsh
      unfold sh_X2_parseNumber_j56 at hsh
      refine v_istore C dX2_parseNumber_56 (by decide) ?_
      refine v_iload C dX2_parseNumber_58 rfl ?_
      refine v_iloadn C dX2_parseNumber_60 rfl ?_
      refine v_iloadn C dX2_parseNumber_61 rfl ?_
      obtain ⟨r4, e3, hsh⟩ := obp_e hsh
      refine v_callS (nP := 3) C (c_X2_begins l D t ad hI  (G := G) e3) k359 k357 k358 k4 yo_X2_begins ⟨Nat.le_of_ble_eq_true rfl, Nat.le_of_ble_eq_true rfl, rfl, rfl, Nat.zero_le _, Nat.zero_le _⟩ rfl rfl (Nat.le_of_ble_eq_true rfl) dX2_parseNumber_62 ?_
      refine v_if_ne C 70 dX2_parseNumber_65 (by decide) (fun hc => ?_) (fun hc => ?_)
      · replace hsh := ite_n hc hsh
        refine v_iload C dX2_parseNumber_70 rfl ?_
        refine v_istoren C dX2_parseNumber_72 (by decide) ?_
        refine v_aloadn C dX2_parseNumber_73 rfl ?_
        refine v_dup C dX2_parseNumber_74 rfl ?_
        refine f2_2 C dX2_parseNumber_75 ?_
        refine v_iconst C dX2_parseNumber_78 (v := 1) (by decide) ?_
        refine v_iadd C dX2_parseNumber_79 ?_
        refine p2_2 C dX2_parseNumber_80 ?_
        obtain ⟨G5, e6, hsh⟩ := bng_e hsh
        refine v_bg e6 ?_
        refine v_iinc C dX2_parseNumber_83 rfl (v := 1) (by decide) (by decide) ?_
        refine v_goto C 5 dX2_parseNumber_86 (by decide) ?_
        exact v_wk (ih _ _ _ _ _ hsh) (wk_of (And.intro rfl (And.intro rfl (And.intro rfl (And.intro rfl (And.intro rfl trivial))))))
      · replace hsh := ite_p hc hsh
        refine v_iconst C dX2_parseNumber_68 (v := -1) (by decide) ?_
        obtain ⟨rfl, rfl⟩ := so_i hsh
        exact v_iret C dX2_parseNumber_69
    refine v_iload C dX2_parseNumber_5 rfl ?_
    refine v_iconst C dX2_parseNumber_7 (v := 3) (by decide) ?_
    refine v_ic_ge C 89 dX2_parseNumber_8 (by decide) (fun hc => ?_) (fun hc => ?_)
    · replace hsh := ite_p hc hsh
      exact v_wk (hk89 _ _ _ hsh) (wk_of (And.intro rfl (And.intro rfl trivial)))
    · replace hsh := ite_n hc hsh
      refine v_aloadn C dX2_parseNumber_11 rfl ?_
      obtain ⟨r2, e1, hsh⟩ := obp_e hsh
      refine v_callI (nP := 0) (k := 65) C (by decide) rfl rfl (c_X2_current l D t ad hI  e1) k356 k353 k355 kp10 k4 yo_X2_current ⟨Nat.le_of_ble_eq_true rfl, Nat.le_of_ble_eq_true rfl, rfl, rfl, Nat.zero_le _, Nat.zero_le _⟩ rfl rfl (Nat.le_of_ble_eq_true rfl) dX2_parseNumber_12 ?_
      refine v_bipush C dX2_parseNumber_15 (v := 48) (by decide) ?_
      refine v_isub C dX2_parseNumber_17 ?_
      refine v_istore C dX2_parseNumber_18 (by decide) ?_
      refine v_iload C dX2_parseNumber_20 rfl ?_
      refine v_if_lt C 89 dX2_parseNumber_22 (by decide) (fun hc => ?_) (fun hc => ?_)
      · replace hsh := ite_p hc hsh
        exact v_wk (hk89 _ _ _ hsh) (wk_of (And.intro rfl (And.intro rfl trivial)))
      · replace hsh := ite_n hc hsh
        refine v_iload C dX2_parseNumber_25 rfl ?_
        refine v_bipush C dX2_parseNumber_27 (v := 9) (by decide) ?_
        refine v_ic_gt C 89 dX2_parseNumber_29 (by decide) (fun hc => ?_) (fun hc => ?_)
        · replace hsh := ite_p hc hsh
          exact v_wk (hk89 _ _ _ hsh) (wk_of (And.intro rfl (And.intro rfl trivial)))
        · replace hsh := ite_n hc hsh
          refine v_iloadn C dX2_parseNumber_32 rfl ?_
          refine v_if_ne C 39 dX2_parseNumber_33 (by decide) (fun hc => ?_) (fun hc => ?_)
          · replace hsh := ite_n hc hsh
            refine v_iload C dX2_parseNumber_39 rfl ?_
            refine v_if_ne C 49 dX2_parseNumber_41 (by decide) (fun hc => ?_) (fun hc => ?_)
            · replace hsh := ite_n hc hsh
              refine v_iloadn C dX2_parseNumber_49 rfl ?_
              refine v_bipush C dX2_parseNumber_50 (v := 10) (by decide) ?_
              refine v_imul C dX2_parseNumber_52 ?_
              refine v_iload C dX2_parseNumber_53 rfl ?_
              refine v_iadd C dX2_parseNumber_55 ?_
              exact v_wk (hj56 _ _ _ _ _ hsh) (wk_of (And.intro rfl (And.intro rfl (And.intro rfl (And.intro rfl trivial)))))
            · replace hsh := ite_p hc hsh
              refine v_iload C dX2_parseNumber_44 rfl ?_
              refine v_goto C 56 dX2_parseNumber_46 (by decide) ?_
              exact v_wk (hj56 _ _ _ _ _ hsh) (wk_of (And.intro rfl (And.intro rfl (And.intro rfl (And.intro rfl trivial)))))
          · replace hsh := ite_p hc hsh
            refine v_goto C 89 dX2_parseNumber_36 (by decide) ?_
            exact v_wk (hk89 _ _ _ hsh) (wk_of (And.intro rfl (And.intro rfl trivial)))
set_option maxRecDepth 100000 in
set_option maxHeartbeats 4000000 in
theorem c_X2_parseNumber (l : Launch) (D : va_G) (t : gT) (ad : Nat → Nat) (hI : gI ad) {l1 : Int32} {l2 : Int32} {G : gG} {r0 : Int32} {G0 : gG} (hsh : sh_X2_parseNumber l1 l2 G = some (r0, G0)) : Mi l D t ad yX2_parseNumber cX2_parseNumber 7 (some .int) (rM 1 25) [.ref (ad 65), .int l1, .int l2] G r0 G0 := by
  refine m_go hI RX2 rfl (by decide +kernel) ⟨rfl, rfl⟩ (Nat.le_of_ble_eq_true rfl) rfl [some (.ref (ad 65)), some (.int l1), some (.int l2), none, none, none, none] rfl (fun p e s m args below meth c C => ?_)
  unfold sh_X2_parseNumber at hsh
  have hj89 : ∀ (l1 : Int32) (l3 : Int32) (G : gG) , sh_X2_parseNumber_j89 l1 l3 G = some (r0, G0) → V p l e (rM 1 25) s m args below meth c (isW ad) D t ad 0 0 7 (Qi below D t ad args s r0 G0) G 89 [none, some (.int l1), none, some (.int l3), none, none, none] [] := by
    intro l1 l3 G hsh
    unfold sh_X2_parseNumber_j89 at hsh
    refine v_iloadn C dX2_parseNumber_89 rfl ?_
    refine v_iloadn C dX2_parseNumber_90 rfl ?_
    refine v_ic_ge C 98 dX2_parseNumber_91 (by decide) (fun hc => ?_) (fun hc => ?_)
    · replace hsh := ite_p hc hsh
      refine v_iloadn C dX2_parseNumber_98 rfl ?_
      obtain ⟨rfl, rfl⟩ := so_i hsh
      exact v_iret C dX2_parseNumber_99
    · replace hsh := ite_n hc hsh
      refine v_iconst C dX2_parseNumber_94 (v := -1) (by decide) ?_
      refine v_goto C 99 dX2_parseNumber_95 (by decide) ?_
      obtain ⟨rfl, rfl⟩ := so_i hsh
      exact v_iret C dX2_parseNumber_99
  refine v_iconst C dX2_parseNumber_0 (v := -1) (by decide) ?_
  refine v_istoren C dX2_parseNumber_1 (by decide) ?_
  refine v_iconst C dX2_parseNumber_2 (v := 0) (by decide) ?_
  refine v_istore C dX2_parseNumber_3 (by decide) ?_
  refine v_wk (lp_X2_parseNumber_5 C hI (fun l1 l3 G hsh => ?_) FU _ _ _ _ _ hsh) (wk_of (And.intro rfl (And.intro rfl (And.intro rfl (And.intro rfl (And.intro rfl trivial))))))
  exact v_wk (hj89 _ _ _ hsh) (wk_of (And.intro rfl (And.intro rfl trivial)))
theorem yo_X2_parseNumber : yOk yX2_parseNumber 2 := ⟨by decide, by decide, by decide +kernel⟩

def sh_X2_skip (l1 : Int32) (G : gG) : Option (Int32 × gG) := (obp (sh_X2_current G) fun r2 => (if r2 = l1 then (bng (gu G 65 2 ((G 65 2) + (1 : Int32))) fun G3 => some ((1 : Int32), G3)) else some ((0 : Int32), G)))
set_option maxRecDepth 100000 in
set_option maxHeartbeats 4000000 in
theorem c_X2_skip (l : Launch) (D : va_G) (t : gT) (ad : Nat → Nat) (hI : gI ad) {l1 : Int32} {G : gG} {r0 : Int32} {G0 : gG} (hsh : sh_X2_skip l1 G = some (r0, G0)) : Mi l D t ad yX2_skip cX2_skip 2 (some .boolean) (rM 1 20) [.ref (ad 65), .int l1] G r0 G0 := by
  refine m_go hI RX2 rfl (by decide +kernel) ⟨rfl, rfl⟩ (Nat.le_of_ble_eq_true rfl) rfl [some (.ref (ad 65)), some (.int l1)] rfl (fun p e s m args below meth c C => ?_)
  unfold sh_X2_skip at hsh
  refine v_aloadn C dX2_skip_0 rfl ?_
  obtain ⟨r2, e1, hsh⟩ := obp_e hsh
  refine v_callI (nP := 0) (k := 65) C (by decide) rfl rfl (c_X2_current l D t ad hI  e1) k356 k353 k355 kp10 k4 yo_X2_current ⟨Nat.le_of_ble_eq_true rfl, Nat.le_of_ble_eq_true rfl, rfl, rfl, Nat.zero_le _, Nat.zero_le _⟩ rfl rfl (Nat.le_of_ble_eq_true rfl) dX2_skip_1 ?_
  refine v_iloadn C dX2_skip_4 rfl ?_
  refine v_ic_eq C 10 dX2_skip_5 (by decide) (fun hc => ?_) (fun hc => ?_)
  · replace hsh := ite_p hc hsh
    refine v_aloadn C dX2_skip_10 rfl ?_
    refine v_dup C dX2_skip_11 rfl ?_
    refine f2_2 C dX2_skip_12 ?_
    refine v_iconst C dX2_skip_15 (v := 1) (by decide) ?_
    refine v_iadd C dX2_skip_16 ?_
    refine p2_2 C dX2_skip_17 ?_
    obtain ⟨G3, e4, hsh⟩ := bng_e hsh
    refine v_bg e4 ?_
    refine v_iconst C dX2_skip_20 (v := 1) (by decide) ?_
    obtain ⟨rfl, rfl⟩ := so_i hsh
    exact v_zret C (Or.inr rfl) dX2_skip_21
  · replace hsh := ite_n hc hsh
    refine v_iconst C dX2_skip_8 (v := 0) (by decide) ?_
    obtain ⟨rfl, rfl⟩ := so_i hsh
    exact v_zret C (Or.inl rfl) dX2_skip_9
theorem yo_X2_skip : yOk yX2_skip 1 := ⟨by decide, by decide, by decide +kernel⟩

def sh_X2_parseLamp_j56 (l1 : Int32) (G : gG) : Option (Int32 × gG) := (if gin l1 16 = true then (if (G 67 (l1).toNatClampNeg) = (-1 : Int32) then some ((0 : Int32), G) else (if (G 68 (l1).toNatClampNeg) = (-1 : Int32) then some ((0 : Int32), G) else some ((1 : Int32), G))) else none)
def sh_X2_parseLamp (l1 : Int32) (G : gG) : Option (Int32 × gG) := (obi (sh_X2_parseNumber (0 : Int32) (199 : Int32) G) fun r2 G3 => (if gin l1 16 = true then (bng (gu G3 67 (l1).toNatClampNeg r2) fun G5 => (bng (gu G5 68 (l1).toNatClampNeg (100 : Int32)) fun G7 => (if (G7 67 (l1).toNatClampNeg) = (-1 : Int32) then (sh_X2_parseLamp_j56 l1 G7) else (obi (sh_X2_skip (42 : Int32) G7) fun r11 G12 => (if r11 = (0 : Int32) then (sh_X2_parseLamp_j56 l1 G12) else (obi (sh_X2_parseNumber (50 : Int32) (150 : Int32) G12) fun r14 G15 => (bng (gu G15 68 (l1).toNatClampNeg r14) fun G16 => (sh_X2_parseLamp_j56 l1 G16)))))))) else none))
set_option maxRecDepth 100000 in
set_option maxHeartbeats 4000000 in
theorem c_X2_parseLamp (l : Launch) (D : va_G) (t : gT) (ad : Nat → Nat) (hI : gI ad) {l1 : Int32} {G : gG} {r0 : Int32} {G0 : gG} (hsh : sh_X2_parseLamp l1 G = some (r0, G0)) : Mi l D t ad yX2_parseLamp cX2_parseLamp 2 (some .boolean) (rM 2 51) [.ref (ad 65), .int l1] G r0 G0 := by
  refine m_go hI RX2 rfl (by decide +kernel) ⟨rfl, rfl⟩ (Nat.le_of_ble_eq_true rfl) rfl [some (.ref (ad 65)), some (.int l1)] rfl (fun p e s m args below meth c C => ?_)
  unfold sh_X2_parseLamp at hsh
  have hj56 : ∀ (l1 : Int32) (G : gG) , sh_X2_parseLamp_j56 l1 G = some (r0, G0) → V p l e (rM 2 51) s m args below meth c (isW ad) D t ad 0 0 2 (Qi below D t ad args s r0 G0) G 56 [some (.ref (ad 65)), some (.int l1)] [] := by
    intro l1 G hsh
    unfold sh_X2_parseLamp_j56 at hsh
    refine v_aloadn C dX2_parseLamp_56 rfl ?_
    refine f2_3 C dX2_parseLamp_57 ?_
    refine v_iloadn C dX2_parseLamp_60 rfl ?_
    obtain ⟨h9, hsh⟩ := g_if hsh
    refine v_ld C (k := 67) (by decide) rfl (gin_in h9) dX2_parseLamp_61 ?_
    refine v_iconst C dX2_parseLamp_62 (v := -1) (by decide) ?_
    refine v_ic_eq C 80 dX2_parseLamp_63 (by decide) (fun hc => ?_) (fun hc => ?_)
    · replace hsh := ite_p hc hsh
      refine v_iconst C dX2_parseLamp_80 (v := 0) (by decide) ?_
      obtain ⟨rfl, rfl⟩ := so_i hsh
      exact v_zret C (Or.inl rfl) dX2_parseLamp_81
    · replace hsh := ite_n hc hsh
      refine v_aloadn C dX2_parseLamp_66 rfl ?_
      refine f2_4 C dX2_parseLamp_67 ?_
      refine v_iloadn C dX2_parseLamp_70 rfl ?_
      refine v_ld C (k := 68) (by decide) rfl (gin_in h9) dX2_parseLamp_71 ?_
      refine v_iconst C dX2_parseLamp_72 (v := -1) (by decide) ?_
      refine v_ic_eq C 80 dX2_parseLamp_73 (by decide) (fun hc => ?_) (fun hc => ?_)
      · replace hsh := ite_p hc hsh
        refine v_iconst C dX2_parseLamp_80 (v := 0) (by decide) ?_
        obtain ⟨rfl, rfl⟩ := so_i hsh
        exact v_zret C (Or.inl rfl) dX2_parseLamp_81
      · replace hsh := ite_n hc hsh
        refine v_iconst C dX2_parseLamp_76 (v := 1) (by decide) ?_
        refine v_goto C 81 dX2_parseLamp_77 (by decide) ?_
        obtain ⟨rfl, rfl⟩ := so_i hsh
        exact v_zret C (Or.inr rfl) dX2_parseLamp_81
  refine v_aloadn C dX2_parseLamp_0 rfl ?_
  refine f2_3 C dX2_parseLamp_1 ?_
  refine v_iloadn C dX2_parseLamp_4 rfl ?_
  refine v_aloadn C dX2_parseLamp_5 rfl ?_
  refine v_iconst C dX2_parseLamp_6 (v := 0) (by decide) ?_
  refine v_sipush C dX2_parseLamp_7 (v := 199) (by decide) ?_
  obtain ⟨r2, G3, e1, hsh⟩ := obi_e hsh
  refine v_callI (nP := 2) (k := 65) C (by decide) rfl rfl (c_X2_parseNumber l D t ad hI  e1) k352 k349 k351 kp9 k4 yo_X2_parseNumber ⟨Nat.le_of_ble_eq_true rfl, Nat.le_of_ble_eq_true rfl, rfl, rfl, Nat.zero_le _, Nat.zero_le _⟩ rfl rfl (Nat.le_of_ble_eq_true rfl) dX2_parseLamp_10 ?_
  obtain ⟨h4, hsh⟩ := g_if hsh
  refine v_st C (k := 67) (by decide) (fun _ => rfl) (gin_in h4) dX2_parseLamp_13 ?_
  obtain ⟨G5, e6, hsh⟩ := bng_e hsh
  refine v_bg e6 ?_
  refine v_aloadn C dX2_parseLamp_14 rfl ?_
  refine f2_4 C dX2_parseLamp_15 ?_
  refine v_iloadn C dX2_parseLamp_18 rfl ?_
  refine v_bipush C dX2_parseLamp_19 (v := 100) (by decide) ?_
  refine v_st C (k := 68) (by decide) (fun _ => rfl) (gin_in h4) dX2_parseLamp_21 ?_
  obtain ⟨G7, e8, hsh⟩ := bng_e hsh
  refine v_bg e8 ?_
  refine v_aloadn C dX2_parseLamp_22 rfl ?_
  refine f2_3 C dX2_parseLamp_23 ?_
  refine v_iloadn C dX2_parseLamp_26 rfl ?_
  refine v_ld C (k := 67) (by decide) rfl (gin_in h4) dX2_parseLamp_27 ?_
  refine v_iconst C dX2_parseLamp_28 (v := -1) (by decide) ?_
  refine v_ic_eq C 56 dX2_parseLamp_29 (by decide) (fun hc => ?_) (fun hc => ?_)
  · replace hsh := ite_p hc hsh
    exact v_wk (hj56 _ _ hsh) (wk_of (And.intro rfl (And.intro rfl trivial)))
  · replace hsh := ite_n hc hsh
    refine v_aloadn C dX2_parseLamp_32 rfl ?_
    refine v_bipush C dX2_parseLamp_33 (v := 42) (by decide) ?_
    obtain ⟨r11, G12, e10, hsh⟩ := obi_e hsh
    refine v_callI (nP := 1) (k := 65) C (by decide) rfl rfl (c_X2_skip l D t ad hI  e10) k363 k360 k362 kp11 k4 yo_X2_skip ⟨Nat.le_of_ble_eq_true rfl, Nat.le_of_ble_eq_true rfl, rfl, rfl, Nat.zero_le _, Nat.zero_le _⟩ rfl rfl (Nat.le_of_ble_eq_true rfl) dX2_parseLamp_35 ?_
    refine v_if_eq C 56 dX2_parseLamp_38 (by decide) (fun hc => ?_) (fun hc => ?_)
    · replace hsh := ite_p hc hsh
      exact v_wk (hj56 _ _ hsh) (wk_of (And.intro rfl (And.intro rfl trivial)))
    · replace hsh := ite_n hc hsh
      refine v_aloadn C dX2_parseLamp_41 rfl ?_
      refine f2_4 C dX2_parseLamp_42 ?_
      refine v_iloadn C dX2_parseLamp_45 rfl ?_
      refine v_aloadn C dX2_parseLamp_46 rfl ?_
      refine v_bipush C dX2_parseLamp_47 (v := 50) (by decide) ?_
      refine v_sipush C dX2_parseLamp_49 (v := 150) (by decide) ?_
      obtain ⟨r14, G15, e13, hsh⟩ := obi_e hsh
      refine v_callI (nP := 2) (k := 65) C (by decide) rfl rfl (c_X2_parseNumber l D t ad hI  e13) k352 k349 k351 kp9 k4 yo_X2_parseNumber ⟨Nat.le_of_ble_eq_true rfl, Nat.le_of_ble_eq_true rfl, rfl, rfl, Nat.zero_le _, Nat.zero_le _⟩ rfl rfl (Nat.le_of_ble_eq_true rfl) dX2_parseLamp_52 ?_
      refine v_st C (k := 68) (by decide) (fun _ => rfl) (gin_in h4) dX2_parseLamp_55 ?_
      obtain ⟨G16, e17, hsh⟩ := bng_e hsh
      refine v_bg e17 ?_
      exact v_wk (hj56 _ _ hsh) (wk_of (And.intro rfl (And.intro rfl trivial)))
theorem yo_X2_parseLamp : yOk yX2_parseLamp 1 := ⟨by decide, by decide, by decide +kernel⟩

def sh_X2_parseLamps_2  (kt51 : gG → Option (Int32 × gG)) : Nat → Int32 → gG → Option (Int32 × gG)
  | 0, _, _ => none
  | n + 1, l1, G => (if (16 : Int32) ≤ l1 then kt51  G else (obi (sh_X2_parseLamp l1 G) fun r2 G3 => (if r2 = (0 : Int32) then some ((0 : Int32), G3) else (bng (gu G3 65 5 (l1 + (1 : Int32))) fun G4 => (if (16 : Int32) ≤ (G4 65 5) then sh_X2_parseLamps_2 kt51 n (l1 + 1) G4 else (obi (sh_X2_skip (44 : Int32) G4) fun r7 G8 => (if r7 = (0 : Int32) then some ((1 : Int32), G8) else sh_X2_parseLamps_2 kt51 n (l1 + 1) G8)))))))
def sh_X2_parseLamps (G : gG) : Option (Int32 × gG) := (sh_X2_parseLamps_2 (fun G => some ((1 : Int32), G)) FU (0 : Int32) G)
set_option maxRecDepth 100000 in
set_option maxHeartbeats 4000000 in
theorem lp_X2_parseLamps_2 {p : Program} {l : Launch} {e : Env} {s : State} {m : MethodId} {args : Array Value} {below : List Frame} {meth : Method} {c : Code} {D : va_G} {t : gT} {ad : Nat → Nat} (C : gC p s m args meth c cX2_parseLamps RX2 2 (some .boolean) (isW ad) D t ad) (hI : gI ad) {r0 : Int32} {G0 : gG} {kt51 : gG → Option (Int32 × gG)} (hk51 : ∀ (G : gG) , kt51 G = some (r0, G0) → V p l e (rM 3 72) s m args below meth c (isW ad) D t ad 0 0 2 (Qi below D t ad args s r0 G0) G 51 [none, none] []) : ∀ (n : Nat) (l1 : Int32) (G : gG) , sh_X2_parseLamps_2 kt51 n l1 G = some (r0, G0) → V p l e (rM 3 72) s m args below meth c (isW ad) D t ad 0 0 2 (Qi below D t ad args s r0 G0) G 2 [some (.ref (ad 65)), some (.int l1)] [] := by
  intro n
  induction n with
  | zero => intro l1 G hsh; rw [sh_X2_parseLamps_2.eq_1] at hsh; cases hsh
  | succ n ih =>
    intro l1 G hsh
    rw [sh_X2_parseLamps_2.eq_2] at hsh
    refine v_iloadn C dX2_parseLamps_2 rfl ?_
    refine v_bipush C dX2_parseLamps_3 (v := 16) (by decide) ?_
    refine v_ic_ge C 51 dX2_parseLamps_5 (by decide) (fun hc => ?_) (fun hc => ?_)
    · replace hsh := ite_p hc hsh
      exact v_wk (hk51  _ hsh) (wk_of trivial)
    · replace hsh := ite_n hc hsh
      refine v_aloadn C dX2_parseLamps_8 rfl ?_
      refine v_iloadn C dX2_parseLamps_9 rfl ?_
      obtain ⟨r2, G3, e1, hsh⟩ := obi_e hsh
      refine v_callI (nP := 1) (k := 65) C (by decide) rfl rfl (c_X2_parseLamp l D t ad hI  e1) k348 k345 k347 kp8 k4 yo_X2_parseLamp ⟨Nat.le_of_ble_eq_true rfl, Nat.le_of_ble_eq_true rfl, rfl, rfl, Nat.zero_le _, Nat.zero_le _⟩ rfl rfl (Nat.le_of_ble_eq_true rfl) dX2_parseLamps_10 ?_
      refine v_if_ne C 18 dX2_parseLamps_13 (by decide) (fun hc => ?_) (fun hc => ?_)
      · replace hsh := ite_n hc hsh
        refine v_aloadn C dX2_parseLamps_18 rfl ?_
        refine v_iloadn C dX2_parseLamps_19 rfl ?_
        refine v_iconst C dX2_parseLamps_20 (v := 1) (by decide) ?_
        refine v_iadd C dX2_parseLamps_21 ?_
        refine p2_5 C dX2_parseLamps_22 ?_
        obtain ⟨G4, e5, hsh⟩ := bng_e hsh
        refine v_bg e5 ?_
        refine v_aloadn C dX2_parseLamps_25 rfl ?_
        refine f2_5 C dX2_parseLamps_26 ?_
        refine v_bipush C dX2_parseLamps_29 (v := 16) (by decide) ?_
        refine v_ic_ge C 45 dX2_parseLamps_31 (by decide) (fun hc => ?_) (fun hc => ?_)
        · replace hsh := ite_p hc hsh
          refine v_iinc C dX2_parseLamps_45 rfl (v := 1) (by decide) (by decide) ?_
          refine v_goto C 2 dX2_parseLamps_48 (by decide) ?_
          exact v_wk (ih _ _ hsh) (wk_of (And.intro rfl (And.intro rfl trivial)))
        · replace hsh := ite_n hc hsh
          refine v_aloadn C dX2_parseLamps_34 rfl ?_
          refine v_bipush C dX2_parseLamps_35 (v := 44) (by decide) ?_
          obtain ⟨r7, G8, e6, hsh⟩ := obi_e hsh
          refine v_callI (nP := 1) (k := 65) C (by decide) rfl rfl (c_X2_skip l D t ad hI  e6) k363 k360 k362 kp11 k4 yo_X2_skip ⟨Nat.le_of_ble_eq_true rfl, Nat.le_of_ble_eq_true rfl, rfl, rfl, Nat.zero_le _, Nat.zero_le _⟩ rfl rfl (Nat.le_of_ble_eq_true rfl) dX2_parseLamps_37 ?_
          refine v_if_ne C 45 dX2_parseLamps_40 (by decide) (fun hc => ?_) (fun hc => ?_)
          · replace hsh := ite_n hc hsh
            refine v_iinc C dX2_parseLamps_45 rfl (v := 1) (by decide) (by decide) ?_
            refine v_goto C 2 dX2_parseLamps_48 (by decide) ?_
            exact v_wk (ih _ _ hsh) (wk_of (And.intro rfl (And.intro rfl trivial)))
          · replace hsh := ite_p hc hsh
            refine v_iconst C dX2_parseLamps_43 (v := 1) (by decide) ?_
            obtain ⟨rfl, rfl⟩ := so_i hsh
            exact v_zret C (Or.inr rfl) dX2_parseLamps_44
      · replace hsh := ite_p hc hsh
        refine v_iconst C dX2_parseLamps_16 (v := 0) (by decide) ?_
        obtain ⟨rfl, rfl⟩ := so_i hsh
        exact v_zret C (Or.inl rfl) dX2_parseLamps_17
set_option maxRecDepth 100000 in
set_option maxHeartbeats 4000000 in
theorem c_X2_parseLamps (l : Launch) (D : va_G) (t : gT) (ad : Nat → Nat) (hI : gI ad) {G : gG} {r0 : Int32} {G0 : gG} (hsh : sh_X2_parseLamps G = some (r0, G0)) : Mi l D t ad yX2_parseLamps cX2_parseLamps 2 (some .boolean) (rM 3 72) [.ref (ad 65)] G r0 G0 := by
  refine m_go hI RX2 rfl (by decide +kernel) ⟨rfl, rfl⟩ (Nat.le_of_ble_eq_true rfl) rfl [some (.ref (ad 65)), none] rfl (fun p e s m args below meth c C => ?_)
  unfold sh_X2_parseLamps at hsh
  refine v_iconst C dX2_parseLamps_0 (v := 0) (by decide) ?_
  refine v_istoren C dX2_parseLamps_1 (by decide) ?_
  refine v_wk (lp_X2_parseLamps_2 C hI (fun G hsh => ?_) FU _ _ hsh) (wk_of (And.intro rfl (And.intro rfl trivial)))
  refine v_iconst C dX2_parseLamps_51 (v := 1) (by decide) ?_
  obtain ⟨rfl, rfl⟩ := so_i hsh
  exact v_zret C (Or.inr rfl) dX2_parseLamps_52
theorem yo_X2_parseLamps : yOk yX2_parseLamps 0 := ⟨by decide, by decide, by decide +kernel⟩

def sh_X2_parseLetter (l1 : Int32) (G : gG) : Option (Int32 × gG) := (obp (sh_X2_current G) fun r2 => (if (r2 - (97 : Int32)) < (0 : Int32) then some ((-1 : Int32), G) else (if (G 65 5) ≤ (r2 - (97 : Int32)) then some ((-1 : Int32), G) else (if (r2 - (97 : Int32)) = l1 then some ((-1 : Int32), G) else (bng (gu G 65 2 ((G 65 2) + (1 : Int32))) fun G3 => some ((r2 - (97 : Int32)), G3))))))
set_option maxRecDepth 100000 in
set_option maxHeartbeats 4000000 in
theorem c_X2_parseLetter (l : Launch) (D : va_G) (t : gT) (ad : Nat → Nat) (hI : gI ad) {l1 : Int32} {G : gG} {r0 : Int32} {G0 : gG} (hsh : sh_X2_parseLetter l1 G = some (r0, G0)) : Mi l D t ad yX2_parseLetter cX2_parseLetter 3 (some .int) (rM 1 20) [.ref (ad 65), .int l1] G r0 G0 := by
  refine m_go hI RX2 rfl (by decide +kernel) ⟨rfl, rfl⟩ (Nat.le_of_ble_eq_true rfl) rfl [some (.ref (ad 65)), some (.int l1), none] rfl (fun p e s m args below meth c C => ?_)
  unfold sh_X2_parseLetter at hsh
  refine v_aloadn C dX2_parseLetter_0 rfl ?_
  obtain ⟨r2, e1, hsh⟩ := obp_e hsh
  refine v_callI (nP := 0) (k := 65) C (by decide) rfl rfl (c_X2_current l D t ad hI  e1) k356 k353 k355 kp10 k4 yo_X2_current ⟨Nat.le_of_ble_eq_true rfl, Nat.le_of_ble_eq_true rfl, rfl, rfl, Nat.zero_le _, Nat.zero_le _⟩ rfl rfl (Nat.le_of_ble_eq_true rfl) dX2_parseLetter_1 ?_
  refine v_bipush C dX2_parseLetter_4 (v := 97) (by decide) ?_
  refine v_isub C dX2_parseLetter_6 ?_
  refine v_istoren C dX2_parseLetter_7 (by decide) ?_
  refine v_iloadn C dX2_parseLetter_8 rfl ?_
  refine v_if_lt C 25 dX2_parseLetter_9 (by decide) (fun hc => ?_) (fun hc => ?_)
  · replace hsh := ite_p hc hsh
    refine v_iconst C dX2_parseLetter_25 (v := -1) (by decide) ?_
    obtain ⟨rfl, rfl⟩ := so_i hsh
    exact v_iret C dX2_parseLetter_26
  · replace hsh := ite_n hc hsh
    refine v_iloadn C dX2_parseLetter_12 rfl ?_
    refine v_aloadn C dX2_parseLetter_13 rfl ?_
    refine f2_5 C dX2_parseLetter_14 ?_
    refine v_ic_ge C 25 dX2_parseLetter_17 (by decide) (fun hc => ?_) (fun hc => ?_)
    · replace hsh := ite_p hc hsh
      refine v_iconst C dX2_parseLetter_25 (v := -1) (by decide) ?_
      obtain ⟨rfl, rfl⟩ := so_i hsh
      exact v_iret C dX2_parseLetter_26
    · replace hsh := ite_n hc hsh
      refine v_iloadn C dX2_parseLetter_20 rfl ?_
      refine v_iloadn C dX2_parseLetter_21 rfl ?_
      refine v_ic_ne C 27 dX2_parseLetter_22 (by decide) (fun hc => ?_) (fun hc => ?_)
      · replace hsh := ite_n hc hsh
        refine v_aloadn C dX2_parseLetter_27 rfl ?_
        refine v_dup C dX2_parseLetter_28 rfl ?_
        refine f2_2 C dX2_parseLetter_29 ?_
        refine v_iconst C dX2_parseLetter_32 (v := 1) (by decide) ?_
        refine v_iadd C dX2_parseLetter_33 ?_
        refine p2_2 C dX2_parseLetter_34 ?_
        obtain ⟨G3, e4, hsh⟩ := bng_e hsh
        refine v_bg e4 ?_
        refine v_iloadn C dX2_parseLetter_37 rfl ?_
        obtain ⟨rfl, rfl⟩ := so_i hsh
        exact v_iret C dX2_parseLetter_38
      · replace hsh := ite_p hc hsh
        refine v_iconst C dX2_parseLetter_25 (v := -1) (by decide) ?_
        obtain ⟨rfl, rfl⟩ := so_i hsh
        exact v_iret C dX2_parseLetter_26
theorem yo_X2_parseLetter : yOk yX2_parseLetter 1 := ⟨by decide, by decide, by decide +kernel⟩

def sh_X2_parseLink (G : gG) : Option (Int32 × gG) := (obi (sh_X2_parseLetter (-1 : Int32) G) fun r2 G3 => (if r2 = (-1 : Int32) then some ((0 : Int32), G3) else (obi (sh_X2_parseLetter r2 G3) fun r5 G6 => (if r5 = (-1 : Int32) then some ((0 : Int32), G6) else (if gin r2 16 = true then (bng (gu G6 69 (r2).toNatClampNeg ((G6 69 (r2).toNatClampNeg) ||| ((1 : Int32) <<< (r5 &&& 31)))) fun G8 => (if gin r5 16 = true then (bng (gu G8 69 (r5).toNatClampNeg ((G8 69 (r5).toNatClampNeg) ||| ((1 : Int32) <<< (r2 &&& 31)))) fun G11 => some ((1 : Int32), G11)) else none)) else none)))))
set_option maxRecDepth 100000 in
set_option maxHeartbeats 4000000 in
theorem c_X2_parseLink (l : Launch) (D : va_G) (t : gT) (ad : Nat → Nat) (hI : gI ad) {G : gG} {r0 : Int32} {G0 : gG} (hsh : sh_X2_parseLink G = some (r0, G0)) : Mi l D t ad yX2_parseLink cX2_parseLink 3 (some .boolean) (rM 2 42) [.ref (ad 65)] G r0 G0 := by
  refine m_go hI RX2 rfl (by decide +kernel) ⟨rfl, rfl⟩ (Nat.le_of_ble_eq_true rfl) rfl [some (.ref (ad 65)), none, none] rfl (fun p e s m args below meth c C => ?_)
  unfold sh_X2_parseLink at hsh
  refine v_aloadn C dX2_parseLink_0 rfl ?_
  refine v_iconst C dX2_parseLink_1 (v := -1) (by decide) ?_
  obtain ⟨r2, G3, e1, hsh⟩ := obi_e hsh
  refine v_callI (nP := 1) (k := 65) C (by decide) rfl rfl (c_X2_parseLetter l D t ad hI  e1) k375 k372 k374 kp14 k4 yo_X2_parseLetter ⟨Nat.le_of_ble_eq_true rfl, Nat.le_of_ble_eq_true rfl, rfl, rfl, Nat.zero_le _, Nat.zero_le _⟩ rfl rfl (Nat.le_of_ble_eq_true rfl) dX2_parseLink_2 ?_
  refine v_istoren C dX2_parseLink_5 (by decide) ?_
  refine v_iloadn C dX2_parseLink_6 rfl ?_
  refine v_iconst C dX2_parseLink_7 (v := -1) (by decide) ?_
  refine v_ic_ne C 13 dX2_parseLink_8 (by decide) (fun hc => ?_) (fun hc => ?_)
  · replace hsh := ite_n hc hsh
    refine v_aloadn C dX2_parseLink_13 rfl ?_
    refine v_iloadn C dX2_parseLink_14 rfl ?_
    obtain ⟨r5, G6, e4, hsh⟩ := obi_e hsh
    refine v_callI (nP := 1) (k := 65) C (by decide) rfl rfl (c_X2_parseLetter l D t ad hI  e4) k375 k372 k374 kp14 k4 yo_X2_parseLetter ⟨Nat.le_of_ble_eq_true rfl, Nat.le_of_ble_eq_true rfl, rfl, rfl, Nat.zero_le _, Nat.zero_le _⟩ rfl rfl (Nat.le_of_ble_eq_true rfl) dX2_parseLink_15 ?_
    refine v_istoren C dX2_parseLink_18 (by decide) ?_
    refine v_iloadn C dX2_parseLink_19 rfl ?_
    refine v_iconst C dX2_parseLink_20 (v := -1) (by decide) ?_
    refine v_ic_ne C 26 dX2_parseLink_21 (by decide) (fun hc => ?_) (fun hc => ?_)
    · replace hsh := ite_n hc hsh
      refine v_aloadn C dX2_parseLink_26 rfl ?_
      refine f2_6 C dX2_parseLink_27 ?_
      refine v_iloadn C dX2_parseLink_30 rfl ?_
      refine v_dup2 C dX2_parseLink_31 rfl rfl ?_
      obtain ⟨h7, hsh⟩ := g_if hsh
      refine v_ld C (k := 69) (by decide) rfl (gin_in h7) dX2_parseLink_32 ?_
      refine v_iconst C dX2_parseLink_33 (v := 1) (by decide) ?_
      refine v_iloadn C dX2_parseLink_34 rfl ?_
      refine v_ishl C dX2_parseLink_35 ?_
      refine v_ior C dX2_parseLink_36 ?_
      refine v_st C (k := 69) (by decide) (fun _ => rfl) (gin_in h7) dX2_parseLink_37 ?_
      obtain ⟨G8, e9, hsh⟩ := bng_e hsh
      refine v_bg e9 ?_
      refine v_aloadn C dX2_parseLink_38 rfl ?_
      refine f2_6 C dX2_parseLink_39 ?_
      refine v_iloadn C dX2_parseLink_42 rfl ?_
      refine v_dup2 C dX2_parseLink_43 rfl rfl ?_
      obtain ⟨h10, hsh⟩ := g_if hsh
      refine v_ld C (k := 69) (by decide) rfl (gin_in h10) dX2_parseLink_44 ?_
      refine v_iconst C dX2_parseLink_45 (v := 1) (by decide) ?_
      refine v_iloadn C dX2_parseLink_46 rfl ?_
      refine v_ishl C dX2_parseLink_47 ?_
      refine v_ior C dX2_parseLink_48 ?_
      refine v_st C (k := 69) (by decide) (fun _ => rfl) (gin_in h10) dX2_parseLink_49 ?_
      obtain ⟨G11, e12, hsh⟩ := bng_e hsh
      refine v_bg e12 ?_
      refine v_iconst C dX2_parseLink_50 (v := 1) (by decide) ?_
      obtain ⟨rfl, rfl⟩ := so_i hsh
      exact v_zret C (Or.inr rfl) dX2_parseLink_51
    · replace hsh := ite_p hc hsh
      refine v_iconst C dX2_parseLink_24 (v := 0) (by decide) ?_
      obtain ⟨rfl, rfl⟩ := so_i hsh
      exact v_zret C (Or.inl rfl) dX2_parseLink_25
  · replace hsh := ite_p hc hsh
    refine v_iconst C dX2_parseLink_11 (v := 0) (by decide) ?_
    obtain ⟨rfl, rfl⟩ := so_i hsh
    exact v_zret C (Or.inl rfl) dX2_parseLink_12
theorem yo_X2_parseLink : yOk yX2_parseLink 0 := ⟨by decide, by decide, by decide +kernel⟩

def sh_X2_parseLinks_2  (kt44 : gG → Option (Int32 × gG)) : Nat → Int32 → gG → Option (Int32 × gG)
  | 0, _, _ => none
  | n + 1, l1, G => (if (60 : Int32) ≤ l1 then kt44  G else (obi (sh_X2_parseLink G) fun r2 G3 => (if r2 = (0 : Int32) then some ((0 : Int32), G3) else (obp (sh_X2_current G3) fun r5 => (if r5 = (-1 : Int32) then some ((1 : Int32), G3) else (obi (sh_X2_skip (44 : Int32) G3) fun r7 G8 => (if r7 = (0 : Int32) then some ((0 : Int32), G8) else sh_X2_parseLinks_2 kt44 n (l1 + 1) G8)))))))
def sh_X2_parseLinks (G : gG) : Option (Int32 × gG) := (sh_X2_parseLinks_2 (fun G => some ((0 : Int32), G)) FU (0 : Int32) G)
set_option maxRecDepth 100000 in
set_option maxHeartbeats 4000000 in
theorem lp_X2_parseLinks_2 {p : Program} {l : Launch} {e : Env} {s : State} {m : MethodId} {args : Array Value} {below : List Frame} {meth : Method} {c : Code} {D : va_G} {t : gT} {ad : Nat → Nat} (C : gC p s m args meth c cX2_parseLinks RX2 2 (some .boolean) (isW ad) D t ad) (hI : gI ad) {r0 : Int32} {G0 : gG} {kt44 : gG → Option (Int32 × gG)} (hk44 : ∀ (G : gG) , kt44 G = some (r0, G0) → V p l e (rM 3 64) s m args below meth c (isW ad) D t ad 0 0 2 (Qi below D t ad args s r0 G0) G 44 [none, none] []) : ∀ (n : Nat) (l1 : Int32) (G : gG) , sh_X2_parseLinks_2 kt44 n l1 G = some (r0, G0) → V p l e (rM 3 64) s m args below meth c (isW ad) D t ad 0 0 2 (Qi below D t ad args s r0 G0) G 2 [some (.ref (ad 65)), some (.int l1)] [] := by
  intro n
  induction n with
  | zero => intro l1 G hsh; rw [sh_X2_parseLinks_2.eq_1] at hsh; cases hsh
  | succ n ih =>
    intro l1 G hsh
    rw [sh_X2_parseLinks_2.eq_2] at hsh
    refine v_iloadn C dX2_parseLinks_2 rfl ?_
    refine v_bipush C dX2_parseLinks_3 (v := 60) (by decide) ?_
    refine v_ic_ge C 44 dX2_parseLinks_5 (by decide) (fun hc => ?_) (fun hc => ?_)
    · replace hsh := ite_p hc hsh
      exact v_wk (hk44  _ hsh) (wk_of trivial)
    · replace hsh := ite_n hc hsh
      refine v_aloadn C dX2_parseLinks_8 rfl ?_
      obtain ⟨r2, G3, e1, hsh⟩ := obi_e hsh
      refine v_callI (nP := 0) (k := 65) C (by decide) rfl rfl (c_X2_parseLink l D t ad hI  e1) k371 k368 k370 kp13 k4 yo_X2_parseLink ⟨Nat.le_of_ble_eq_true rfl, Nat.le_of_ble_eq_true rfl, rfl, rfl, Nat.zero_le _, Nat.zero_le _⟩ rfl rfl (Nat.le_of_ble_eq_true rfl) dX2_parseLinks_9 ?_
      refine v_if_ne C 17 dX2_parseLinks_12 (by decide) (fun hc => ?_) (fun hc => ?_)
      · replace hsh := ite_n hc hsh
        refine v_aloadn C dX2_parseLinks_17 rfl ?_
        obtain ⟨r5, e4, hsh⟩ := obp_e hsh
        refine v_callI (nP := 0) (k := 65) C (by decide) rfl rfl (c_X2_current l D t ad hI  e4) k356 k353 k355 kp10 k4 yo_X2_current ⟨Nat.le_of_ble_eq_true rfl, Nat.le_of_ble_eq_true rfl, rfl, rfl, Nat.zero_le _, Nat.zero_le _⟩ rfl rfl (Nat.le_of_ble_eq_true rfl) dX2_parseLinks_18 ?_
        refine v_iconst C dX2_parseLinks_21 (v := -1) (by decide) ?_
        refine v_ic_ne C 27 dX2_parseLinks_22 (by decide) (fun hc => ?_) (fun hc => ?_)
        · replace hsh := ite_n hc hsh
          refine v_aloadn C dX2_parseLinks_27 rfl ?_
          refine v_bipush C dX2_parseLinks_28 (v := 44) (by decide) ?_
          obtain ⟨r7, G8, e6, hsh⟩ := obi_e hsh
          refine v_callI (nP := 1) (k := 65) C (by decide) rfl rfl (c_X2_skip l D t ad hI  e6) k363 k360 k362 kp11 k4 yo_X2_skip ⟨Nat.le_of_ble_eq_true rfl, Nat.le_of_ble_eq_true rfl, rfl, rfl, Nat.zero_le _, Nat.zero_le _⟩ rfl rfl (Nat.le_of_ble_eq_true rfl) dX2_parseLinks_30 ?_
          refine v_if_ne C 38 dX2_parseLinks_33 (by decide) (fun hc => ?_) (fun hc => ?_)
          · replace hsh := ite_n hc hsh
            refine v_iinc C dX2_parseLinks_38 rfl (v := 1) (by decide) (by decide) ?_
            refine v_goto C 2 dX2_parseLinks_41 (by decide) ?_
            exact v_wk (ih _ _ hsh) (wk_of (And.intro rfl (And.intro rfl trivial)))
          · replace hsh := ite_p hc hsh
            refine v_iconst C dX2_parseLinks_36 (v := 0) (by decide) ?_
            obtain ⟨rfl, rfl⟩ := so_i hsh
            exact v_zret C (Or.inl rfl) dX2_parseLinks_37
        · replace hsh := ite_p hc hsh
          refine v_iconst C dX2_parseLinks_25 (v := 1) (by decide) ?_
          obtain ⟨rfl, rfl⟩ := so_i hsh
          exact v_zret C (Or.inr rfl) dX2_parseLinks_26
      · replace hsh := ite_p hc hsh
        refine v_iconst C dX2_parseLinks_15 (v := 0) (by decide) ?_
        obtain ⟨rfl, rfl⟩ := so_i hsh
        exact v_zret C (Or.inl rfl) dX2_parseLinks_16
set_option maxRecDepth 100000 in
set_option maxHeartbeats 4000000 in
theorem c_X2_parseLinks (l : Launch) (D : va_G) (t : gT) (ad : Nat → Nat) (hI : gI ad) {G : gG} {r0 : Int32} {G0 : gG} (hsh : sh_X2_parseLinks G = some (r0, G0)) : Mi l D t ad yX2_parseLinks cX2_parseLinks 2 (some .boolean) (rM 3 64) [.ref (ad 65)] G r0 G0 := by
  refine m_go hI RX2 rfl (by decide +kernel) ⟨rfl, rfl⟩ (Nat.le_of_ble_eq_true rfl) rfl [some (.ref (ad 65)), none] rfl (fun p e s m args below meth c C => ?_)
  unfold sh_X2_parseLinks at hsh
  refine v_iconst C dX2_parseLinks_0 (v := 0) (by decide) ?_
  refine v_istoren C dX2_parseLinks_1 (by decide) ?_
  refine v_wk (lp_X2_parseLinks_2 C hI (fun G hsh => ?_) FU _ _ hsh) (wk_of (And.intro rfl (And.intro rfl trivial)))
  refine v_iconst C dX2_parseLinks_44 (v := 0) (by decide) ?_
  obtain ⟨rfl, rfl⟩ := so_i hsh
  exact v_zret C (Or.inl rfl) dX2_parseLinks_45
theorem yo_X2_parseLinks : yOk yX2_parseLinks 0 := ⟨by decide, by decide, by decide +kernel⟩

def sh_X2_parse_12  (kt31 : gG → Option (Int32 × gG)) : Nat → Int32 → gG → Option (Int32 × gG)
  | 0, _, _ => none
  | n + 1, l1, G => (if (16 : Int32) ≤ l1 then kt31  G else (if gin l1 16 = true then (bng (gu G 69 (l1).toNatClampNeg (0 : Int32)) fun G6 => sh_X2_parse_12 kt31 n (l1 + 1) G6) else none))
def sh_X2_parse (G : gG) : Option (Int32 × gG) := (bng (gu G 65 2 (0 : Int32)) fun G1 => (bng (gu G1 65 5 (0 : Int32)) fun G3 => (sh_X2_parse_12 (fun G => (obi (sh_X2_parseLamps G) fun r9 G10 => (if r9 = (0 : Int32) then some ((0 : Int32), G10) else (obp (sh_X2_current G10) fun r12 => (if r12 = (-1 : Int32) then some ((1 : Int32), G10) else (if (G10 65 5) < (2 : Int32) then some ((0 : Int32), G10) else (obi (sh_X2_skip (59 : Int32) G10) fun r14 G15 => (if r14 = (0 : Int32) then some ((0 : Int32), G15) else (obi (sh_X2_parseLinks G15) fun r17 G18 => (if r17 = (0 : Int32) then some ((0 : Int32), G18) else some ((1 : Int32), G18))))))))))) FU (0 : Int32) G3)))
set_option maxRecDepth 100000 in
set_option maxHeartbeats 4000000 in
theorem lp_X2_parse_12 {p : Program} {l : Launch} {e : Env} {s : State} {m : MethodId} {args : Array Value} {below : List Frame} {meth : Method} {c : Code} {D : va_G} {t : gT} {ad : Nat → Nat} (C : gC p s m args meth c cX2_parse RX2 2 (some .boolean) (isW ad) D t ad) (hI : gI ad) {r0 : Int32} {G0 : gG} {kt31 : gG → Option (Int32 × gG)} (hk31 : ∀ (G : gG) , kt31 G = some (r0, G0) → V p l e (rM 4 93) s m args below meth c (isW ad) D t ad 0 0 2 (Qi below D t ad args s r0 G0) G 31 [some (.ref (ad 65)), none] []) : ∀ (n : Nat) (l1 : Int32) (G : gG) , sh_X2_parse_12 kt31 n l1 G = some (r0, G0) → V p l e (rM 4 93) s m args below meth c (isW ad) D t ad 0 0 2 (Qi below D t ad args s r0 G0) G 12 [some (.ref (ad 65)), some (.int l1)] [] := by
  intro n
  induction n with
  | zero => intro l1 G hsh; rw [sh_X2_parse_12.eq_1] at hsh; cases hsh
  | succ n ih =>
    intro l1 G hsh
    rw [sh_X2_parse_12.eq_2] at hsh
    refine v_iloadn C dX2_parse_12 rfl ?_
    refine v_bipush C dX2_parse_13 (v := 16) (by decide) ?_
    refine v_ic_ge C 31 dX2_parse_15 (by decide) (fun hc => ?_) (fun hc => ?_)
    · replace hsh := ite_p hc hsh
      exact v_wk (hk31  _ hsh) (wk_of (And.intro rfl trivial))
    · replace hsh := ite_n hc hsh
      refine v_aloadn C dX2_parse_18 rfl ?_
      refine f2_6 C dX2_parse_19 ?_
      refine v_iloadn C dX2_parse_22 rfl ?_
      refine v_iconst C dX2_parse_23 (v := 0) (by decide) ?_
      obtain ⟨h5, hsh⟩ := g_if hsh
      refine v_st C (k := 69) (by decide) (fun _ => rfl) (gin_in h5) dX2_parse_24 ?_
      obtain ⟨G6, e7, hsh⟩ := bng_e hsh
      refine v_bg e7 ?_
      refine v_iinc C dX2_parse_25 rfl (v := 1) (by decide) (by decide) ?_
      refine v_goto C 12 dX2_parse_28 (by decide) ?_
      exact v_wk (ih _ _ hsh) (wk_of (And.intro rfl (And.intro rfl trivial)))
set_option maxRecDepth 100000 in
set_option maxHeartbeats 4000000 in
theorem c_X2_parse (l : Launch) (D : va_G) (t : gT) (ad : Nat → Nat) (hI : gI ad) {G : gG} {r0 : Int32} {G0 : gG} (hsh : sh_X2_parse G = some (r0, G0)) : Mi l D t ad yX2_parse cX2_parse 2 (some .boolean) (rM 4 93) [.ref (ad 65)] G r0 G0 := by
  refine m_go hI RX2 rfl (by decide +kernel) ⟨rfl, rfl⟩ (Nat.le_of_ble_eq_true rfl) rfl [some (.ref (ad 65)), none] rfl (fun p e s m args below meth c C => ?_)
  unfold sh_X2_parse at hsh
  refine v_aloadn C dX2_parse_0 rfl ?_
  refine v_iconst C dX2_parse_1 (v := 0) (by decide) ?_
  refine p2_2 C dX2_parse_2 ?_
  obtain ⟨G1, e2, hsh⟩ := bng_e hsh
  refine v_bg e2 ?_
  refine v_aloadn C dX2_parse_5 rfl ?_
  refine v_iconst C dX2_parse_6 (v := 0) (by decide) ?_
  refine p2_5 C dX2_parse_7 ?_
  obtain ⟨G3, e4, hsh⟩ := bng_e hsh
  refine v_bg e4 ?_
  refine v_iconst C dX2_parse_10 (v := 0) (by decide) ?_
  refine v_istoren C dX2_parse_11 (by decide) ?_
  refine v_wk (lp_X2_parse_12 C hI (fun G hsh => ?_) FU _ _ hsh) (wk_of (And.intro rfl (And.intro rfl trivial)))
  refine v_aloadn C dX2_parse_31 rfl ?_
  obtain ⟨r9, G10, e8, hsh⟩ := obi_e hsh
  refine v_callI (nP := 0) (k := 65) C (by decide) rfl rfl (c_X2_parseLamps l D t ad hI  e8) k344 k341 k343 kp7 k4 yo_X2_parseLamps ⟨Nat.le_of_ble_eq_true rfl, Nat.le_of_ble_eq_true rfl, rfl, rfl, Nat.zero_le _, Nat.zero_le _⟩ rfl rfl (Nat.le_of_ble_eq_true rfl) dX2_parse_32 ?_
  refine v_if_ne C 40 dX2_parse_35 (by decide) (fun hc => ?_) (fun hc => ?_)
  · replace hsh := ite_n hc hsh
    refine v_aloadn C dX2_parse_40 rfl ?_
    obtain ⟨r12, e11, hsh⟩ := obp_e hsh
    refine v_callI (nP := 0) (k := 65) C (by decide) rfl rfl (c_X2_current l D t ad hI  e11) k356 k353 k355 kp10 k4 yo_X2_current ⟨Nat.le_of_ble_eq_true rfl, Nat.le_of_ble_eq_true rfl, rfl, rfl, Nat.zero_le _, Nat.zero_le _⟩ rfl rfl (Nat.le_of_ble_eq_true rfl) dX2_parse_41 ?_
    refine v_iconst C dX2_parse_44 (v := -1) (by decide) ?_
    refine v_ic_ne C 50 dX2_parse_45 (by decide) (fun hc => ?_) (fun hc => ?_)
    · replace hsh := ite_n hc hsh
      refine v_aloadn C dX2_parse_50 rfl ?_
      refine f2_5 C dX2_parse_51 ?_
      refine v_iconst C dX2_parse_54 (v := 2) (by decide) ?_
      refine v_ic_lt C 78 dX2_parse_55 (by decide) (fun hc => ?_) (fun hc => ?_)
      · replace hsh := ite_p hc hsh
        refine v_iconst C dX2_parse_78 (v := 0) (by decide) ?_
        obtain ⟨rfl, rfl⟩ := so_i hsh
        exact v_zret C (Or.inl rfl) dX2_parse_79
      · replace hsh := ite_n hc hsh
        refine v_aloadn C dX2_parse_58 rfl ?_
        refine v_bipush C dX2_parse_59 (v := 59) (by decide) ?_
        obtain ⟨r14, G15, e13, hsh⟩ := obi_e hsh
        refine v_callI (nP := 1) (k := 65) C (by decide) rfl rfl (c_X2_skip l D t ad hI  e13) k363 k360 k362 kp11 k4 yo_X2_skip ⟨Nat.le_of_ble_eq_true rfl, Nat.le_of_ble_eq_true rfl, rfl, rfl, Nat.zero_le _, Nat.zero_le _⟩ rfl rfl (Nat.le_of_ble_eq_true rfl) dX2_parse_61 ?_
        refine v_if_eq C 78 dX2_parse_64 (by decide) (fun hc => ?_) (fun hc => ?_)
        · replace hsh := ite_p hc hsh
          refine v_iconst C dX2_parse_78 (v := 0) (by decide) ?_
          obtain ⟨rfl, rfl⟩ := so_i hsh
          exact v_zret C (Or.inl rfl) dX2_parse_79
        · replace hsh := ite_n hc hsh
          refine v_aloadn C dX2_parse_67 rfl ?_
          obtain ⟨r17, G18, e16, hsh⟩ := obi_e hsh
          refine v_callI (nP := 0) (k := 65) C (by decide) rfl rfl (c_X2_parseLinks l D t ad hI  e16) k367 k364 k366 kp12 k4 yo_X2_parseLinks ⟨Nat.le_of_ble_eq_true rfl, Nat.le_of_ble_eq_true rfl, rfl, rfl, Nat.zero_le _, Nat.zero_le _⟩ rfl rfl (Nat.le_of_ble_eq_true rfl) dX2_parse_68 ?_
          refine v_if_eq C 78 dX2_parse_71 (by decide) (fun hc => ?_) (fun hc => ?_)
          · replace hsh := ite_p hc hsh
            refine v_iconst C dX2_parse_78 (v := 0) (by decide) ?_
            obtain ⟨rfl, rfl⟩ := so_i hsh
            exact v_zret C (Or.inl rfl) dX2_parse_79
          · replace hsh := ite_n hc hsh
            refine v_iconst C dX2_parse_74 (v := 1) (by decide) ?_
            refine v_goto C 79 dX2_parse_75 (by decide) ?_
            obtain ⟨rfl, rfl⟩ := so_i hsh
            exact v_zret C (Or.inr rfl) dX2_parse_79
    · replace hsh := ite_p hc hsh
      refine v_iconst C dX2_parse_48 (v := 1) (by decide) ?_
      obtain ⟨rfl, rfl⟩ := so_i hsh
      exact v_zret C (Or.inr rfl) dX2_parse_49
  · replace hsh := ite_p hc hsh
    refine v_iconst C dX2_parse_38 (v := 0) (by decide) ?_
    obtain ⟨rfl, rfl⟩ := so_i hsh
    exact v_zret C (Or.inl rfl) dX2_parse_39
theorem yo_X2_parse : yOk yX2_parse 0 := ⟨by decide, by decide, by decide +kernel⟩
