def sh_X0_size (G : gG) : Int32 := (G 63 1)
set_option maxRecDepth 100000 in
set_option maxHeartbeats 4000000 in
theorem c_X0_size (l : Launch) (D : va_G) (t : gT) (ad : Nat → Nat) (hI : gI ad) {G : gG} {r0 : Int32} (hsh : sh_X0_size G = r0) : Mi l D t ad yX0_size cX0_size 1 (some .int) (rM 0 0) [.ref (ad 63)] G r0 G := by
  refine m_go hI RX0 rfl (by decide +kernel) ⟨rfl, rfl⟩ (Nat.le_of_ble_eq_true rfl) rfl [some (.ref (ad 63))] rfl (fun p e s m args below meth c C => ?_)
  unfold sh_X0_size at hsh
  refine v_aloadn C dX0_size_0 rfl ?_
  refine f0_1 C dX0_size_1 ?_
  subst hsh
  exact v_iret C dX0_size_4
theorem yo_X0_size : yOk yX0_size 0 := ⟨by decide, by decide, by decide +kernel⟩

def sh_X0_dropOldest_9  (kt34 : Nat → gG → Option (gG)) : Nat → Nat → Int32 → gG → Option (gG)
  | 0, _, _, _ => none
  | n + 1, m1, l2, G => (if (4 : Int32) ≤ l2 then kt34 m1 G else (if gin l2 4 = true then (if gin (l2 - (1 : Int32)) 4 = true then (if isMB ((G 64 (l2).toNatClampNeg).toNatClampNeg) = true then (bng (gu G 64 ((l2 - (1 : Int32))).toNatClampNeg (Int32.ofNat ((G 64 (l2).toNatClampNeg).toNatClampNeg))) fun G4 => sh_X0_dropOldest_9 kt34 n m1 (l2 + 1) G4) else none) else none) else none))
def sh_X0_dropOldest (G : gG) : Option (gG) := (sh_X0_dropOldest_9 (fun m1 G => (if isMB m1 = true then (bng (gu G 64 ((3 : Int32)).toNatClampNeg (Int32.ofNat m1)) fun G7 => (bng (gu G7 63 1 (3 : Int32)) fun G9 => some G9)) else none)) FU ((G 64 ((0 : Int32)).toNatClampNeg).toNatClampNeg) (1 : Int32) G)
set_option maxRecDepth 100000 in
set_option maxHeartbeats 4000000 in
theorem lp_X0_dropOldest_9 {p : Program} {l : Launch} {e : Env} {s : State} {m : MethodId} {args : Array Value} {below : List Frame} {meth : Method} {c : Code} {D : va_G} {t : gT} {ad : Nat → Nat} (C : gC p s m args meth c cX0_dropOldest RX0 3 none (isW ad) D t ad) (hI : gI ad) {G0 : gG} {kt34 : Nat → gG → Option (gG)} (hk34 : ∀ (m1 : Nat) (G : gG) , kt34 m1 G = some G0 → V p l e (rM 0 0) s m args below meth c (isW ad) D t ad 0 0 3 (Qv below D t ad args s G0) G 34 [some (.ref (ad 63)), some (.ref (ad m1)), none] []) : ∀ (n : Nat) (m1 : Nat) (l2 : Int32) (G : gG) , sh_X0_dropOldest_9 kt34 n m1 l2 G = some G0 → V p l e (rM 0 0) s m args below meth c (isW ad) D t ad 0 0 3 (Qv below D t ad args s G0) G 9 [some (.ref (ad 63)), some (.ref (ad m1)), some (.int l2)] [] := by
  intro n
  induction n with
  | zero => intro m1 l2 G hsh; rw [sh_X0_dropOldest_9.eq_1] at hsh; cases hsh
  | succ n ih =>
    intro m1 l2 G hsh
    rw [sh_X0_dropOldest_9.eq_2] at hsh
    refine v_iloadn C dX0_dropOldest_9 rfl ?_
    refine v_iconst C dX0_dropOldest_10 (v := 4) (by decide) ?_
    refine v_ic_ge C 34 dX0_dropOldest_11 (by decide) (fun hc => ?_) (fun hc => ?_)
    · replace hsh := ite_p hc hsh
      exact v_wk (hk34 _ _ hsh) (wk_of (And.intro rfl (And.intro rfl trivial)))
    · replace hsh := ite_n hc hsh
      refine v_aloadn C dX0_dropOldest_14 rfl ?_
      refine f0_0 C dX0_dropOldest_15 ?_
      refine v_iloadn C dX0_dropOldest_18 rfl ?_
      refine v_iconst C dX0_dropOldest_19 (v := 1) (by decide) ?_
      refine v_isub C dX0_dropOldest_20 ?_
      refine v_aloadn C dX0_dropOldest_21 rfl ?_
      refine f0_0 C dX0_dropOldest_22 ?_
      refine v_iloadn C dX0_dropOldest_25 rfl ?_
      obtain ⟨h1, hsh⟩ := g_if hsh
      refine v_ald C (gin_in h1) dX0_dropOldest_26 ?_
      obtain ⟨h2, hsh⟩ := g_if hsh
      obtain ⟨hg3, hsh⟩ := g_if hsh
      refine v_ast C (isMB_m hg3) (gin_in h2) dX0_dropOldest_27 ?_
      obtain ⟨G4, e5, hsh⟩ := bng_e hsh
      refine v_bg e5 ?_
      refine v_iinc C dX0_dropOldest_28 rfl (v := 1) (by decide) (by decide) ?_
      refine v_goto C 9 dX0_dropOldest_31 (by decide) ?_
      exact v_wk (ih _ _ _ hsh) (wk_of (And.intro rfl (And.intro rfl (And.intro rfl trivial))))
set_option maxRecDepth 100000 in
set_option maxHeartbeats 4000000 in
theorem c_X0_dropOldest (l : Launch) (D : va_G) (t : gT) (ad : Nat → Nat) (hI : gI ad) {G : gG} {G0 : gG} (hsh : sh_X0_dropOldest G = some G0) : Mv l D t ad yX0_dropOldest cX0_dropOldest 3 (rM 0 0) [.ref (ad 63)] G G0 := by
  refine m_go hI RX0 rfl (by decide +kernel) ⟨rfl, rfl⟩ (Nat.le_of_ble_eq_true rfl) rfl [some (.ref (ad 63)), none, none] rfl (fun p e s m args below meth c C => ?_)
  unfold sh_X0_dropOldest at hsh
  refine v_aloadn C dX0_dropOldest_0 rfl ?_
  refine f0_0 C dX0_dropOldest_1 ?_
  refine v_iconst C dX0_dropOldest_4 (v := 0) (by decide) ?_
  refine v_ald C (gin_in (by decide)) dX0_dropOldest_5 ?_
  refine v_astoren C dX0_dropOldest_6 (by decide) ?_
  refine v_iconst C dX0_dropOldest_7 (v := 1) (by decide) ?_
  refine v_istoren C dX0_dropOldest_8 (by decide) ?_
  refine v_wk (lp_X0_dropOldest_9 C hI (fun m1 G hsh => ?_) FU _ _ _ hsh) (wk_of (And.intro rfl (And.intro rfl (And.intro rfl trivial))))
  refine v_aloadn C dX0_dropOldest_34 rfl ?_
  refine f0_0 C dX0_dropOldest_35 ?_
  refine v_iconst C dX0_dropOldest_38 (v := 3) (by decide) ?_
  refine v_aloadn C dX0_dropOldest_39 rfl ?_
  obtain ⟨hg6, hsh⟩ := g_if hsh
  refine v_ast C (isMB_m hg6) (gin_in (by decide)) dX0_dropOldest_40 ?_
  obtain ⟨G7, e8, hsh⟩ := bng_e hsh
  refine v_bg e8 ?_
  refine v_aloadn C dX0_dropOldest_41 rfl ?_
  refine v_iconst C dX0_dropOldest_42 (v := 3) (by decide) ?_
  refine p0_1 C dX0_dropOldest_43 ?_
  obtain ⟨G9, e10, hsh⟩ := bng_e hsh
  refine v_bg e10 ?_
  obtain rfl := so_1 hsh
  exact v_vret C dX0_dropOldest_46
theorem yo_X0_dropOldest : yOk yX0_dropOldest 0 := ⟨by decide, by decide, by decide +kernel⟩

def sh_X0_remember_j12 (q1 : Nat) (G : gG) : Option (gG) := (if gin (G 63 1) 4 = true then (if isMB ((G 64 ((G 63 1)).toNatClampNeg).toNatClampNeg) = true then (obv (sh_X1_copyFrom ((G 64 ((G 63 1)).toNatClampNeg).toNatClampNeg) q1 G) fun G4 => (bng (gu G4 63 1 ((G4 63 1) + (1 : Int32))) fun G5 => some G5)) else none) else none)
def sh_X0_remember (q1 : Nat) (G : gG) : Option (gG) := (if (G 63 1) < (4 : Int32) then (sh_X0_remember_j12 q1 G) else (obv (sh_X0_dropOldest G) fun G8 => (sh_X0_remember_j12 q1 G8)))
set_option maxRecDepth 100000 in
set_option maxHeartbeats 4000000 in
theorem c_X0_remember (l : Launch) (D : va_G) (t : gT) (ad : Nat → Nat) (hI : gI ad) {q1 : Nat} (hq1 : isM q1) {G : gG} {G0 : gG} (hsh : sh_X0_remember q1 G = some G0) : Mv l D t ad yX0_remember cX0_remember 2 (rM 2 47) [.ref (ad 63), .ref (ad q1)] G G0 := by
  refine m_go hI RX0 rfl (by decide +kernel) ⟨rfl, rfl⟩ (Nat.le_of_ble_eq_true rfl) rfl [some (.ref (ad 63)), some (.ref (ad q1))] rfl (fun p e s m args below meth c C => ?_)
  unfold sh_X0_remember at hsh
  have hj12 : ∀ (G : gG) , sh_X0_remember_j12 q1 G = some G0 → V p l e (rM 2 47) s m args below meth c (isW ad) D t ad 0 0 2 (Qv below D t ad args s G0) G 12 [some (.ref (ad 63)), some (.ref (ad q1))] [] := by
    intro G hsh
    unfold sh_X0_remember_j12 at hsh
    refine v_aloadn C dX0_remember_12 rfl ?_
    refine f0_0 C dX0_remember_13 ?_
    refine v_aloadn C dX0_remember_16 rfl ?_
    refine f0_1 C dX0_remember_17 ?_
    obtain ⟨h1, hsh⟩ := g_if hsh
    refine v_ald C (gin_in h1) dX0_remember_20 ?_
    refine v_aloadn C dX0_remember_21 rfl ?_
    obtain ⟨hg2, hsh⟩ := g_if hsh
    obtain ⟨G4, e3, hsh⟩ := obv_e hsh
    refine v_callV (nP := 1) (k := ((G 64 ((G 63 1)).toNatClampNeg).toNatClampNeg)) C (isM_lt (f := 0) (isMB_m hg2) (by decide)) (ce_m (isMB_m hg2)) rfl (c_X1_copyFrom l D t ad hI (isMB_m hg2) hq1 e3) k180 k370 k178 k179 k2 yo_X1_copyFrom ⟨Nat.le_of_ble_eq_true rfl, Nat.le_of_ble_eq_true rfl, rfl, rfl, Nat.zero_le _, Nat.zero_le _⟩ rfl rfl (Nat.le_of_ble_eq_true rfl) dX0_remember_22 ?_
    refine v_aloadn C dX0_remember_25 rfl ?_
    refine v_dup C dX0_remember_26 rfl ?_
    refine f0_1 C dX0_remember_27 ?_
    refine v_iconst C dX0_remember_30 (v := 1) (by decide) ?_
    refine v_iadd C dX0_remember_31 ?_
    refine p0_1 C dX0_remember_32 ?_
    obtain ⟨G5, e6, hsh⟩ := bng_e hsh
    refine v_bg e6 ?_
    obtain rfl := so_1 hsh
    exact v_vret C dX0_remember_35
  refine v_aloadn C dX0_remember_0 rfl ?_
  refine f0_1 C dX0_remember_1 ?_
  refine v_iconst C dX0_remember_4 (v := 4) (by decide) ?_
  refine v_ic_lt C 12 dX0_remember_5 (by decide) (fun hc => ?_) (fun hc => ?_)
  · replace hsh := ite_p hc hsh
    exact v_wk (hj12 _ hsh) (wk_of (And.intro rfl (And.intro rfl trivial)))
  · replace hsh := ite_n hc hsh
    refine v_aloadn C dX0_remember_8 rfl ?_
    obtain ⟨G8, e7, hsh⟩ := obv_e hsh
    refine v_callV (nP := 0) (k := 63) C (by decide) rfl rfl (c_X0_dropOldest l D t ad hI  e7) k369 k366 k368 kp11 k3 yo_X0_dropOldest ⟨Nat.le_of_ble_eq_true rfl, Nat.le_of_ble_eq_true rfl, rfl, rfl, Nat.zero_le _, Nat.zero_le _⟩ rfl rfl (Nat.le_of_ble_eq_true rfl) dX0_remember_9 ?_
    exact v_wk (hj12 _ hsh) (wk_of (And.intro rfl (And.intro rfl trivial)))
theorem yo_X0_remember : yOk yX0_remember 1 := ⟨by decide, by decide, by decide +kernel⟩

def sh_X0_takeBack (q1 : Nat) (G : gG) : Option (gG) := (if (G 63 1) ≤ (0 : Int32) then some G else (bng (gu G 63 1 ((G 63 1) - (1 : Int32))) fun G1 => (if gin (G1 63 1) 4 = true then (if isMB ((G1 64 ((G1 63 1)).toNatClampNeg).toNatClampNeg) = true then (obv (sh_X1_copyFrom q1 ((G1 64 ((G1 63 1)).toNatClampNeg).toNatClampNeg) G1) fun G6 => some G6) else none) else none)))
set_option maxRecDepth 100000 in
set_option maxHeartbeats 4000000 in
theorem c_X0_takeBack (l : Launch) (D : va_G) (t : gT) (ad : Nat → Nat) (hI : gI ad) {q1 : Nat} (hq1 : isM q1) {G : gG} {G0 : gG} (hsh : sh_X0_takeBack q1 G = some G0) : Mv l D t ad yX0_takeBack cX0_takeBack 2 (rM 2 47) [.ref (ad 63), .ref (ad q1)] G G0 := by
  refine m_go hI RX0 rfl (by decide +kernel) ⟨rfl, rfl⟩ (Nat.le_of_ble_eq_true rfl) rfl [some (.ref (ad 63)), some (.ref (ad q1))] rfl (fun p e s m args below meth c C => ?_)
  unfold sh_X0_takeBack at hsh
  refine v_aloadn C dX0_takeBack_0 rfl ?_
  refine f0_1 C dX0_takeBack_1 ?_
  refine v_if_le C 30 dX0_takeBack_4 (by decide) (fun hc => ?_) (fun hc => ?_)
  · replace hsh := ite_p hc hsh
    obtain rfl := so_1 hsh
    exact v_vret C dX0_takeBack_30
  · replace hsh := ite_n hc hsh
    refine v_aloadn C dX0_takeBack_7 rfl ?_
    refine v_dup C dX0_takeBack_8 rfl ?_
    refine f0_1 C dX0_takeBack_9 ?_
    refine v_iconst C dX0_takeBack_12 (v := 1) (by decide) ?_
    refine v_isub C dX0_takeBack_13 ?_
    refine p0_1 C dX0_takeBack_14 ?_
    obtain ⟨G1, e2, hsh⟩ := bng_e hsh
    refine v_bg e2 ?_
    refine v_aloadn C dX0_takeBack_17 rfl ?_
    refine v_aloadn C dX0_takeBack_18 rfl ?_
    refine f0_0 C dX0_takeBack_19 ?_
    refine v_aloadn C dX0_takeBack_22 rfl ?_
    refine f0_1 C dX0_takeBack_23 ?_
    obtain ⟨h3, hsh⟩ := g_if hsh
    refine v_ald C (gin_in h3) dX0_takeBack_26 ?_
    obtain ⟨hg4, hsh⟩ := g_if hsh
    obtain ⟨G6, e5, hsh⟩ := obv_e hsh
    refine v_callV (nP := 1) (k := q1) C (isM_lt (f := 0) hq1 (by decide)) (ce_m hq1) rfl (c_X1_copyFrom l D t ad hI hq1 (isMB_m hg4) e5) k180 k370 k178 k179 k2 yo_X1_copyFrom ⟨Nat.le_of_ble_eq_true rfl, Nat.le_of_ble_eq_true rfl, rfl, rfl, Nat.zero_le _, Nat.zero_le _⟩ rfl rfl (Nat.le_of_ble_eq_true rfl) dX0_takeBack_27 ?_
    obtain rfl := so_1 hsh
    exact v_vret C dX0_takeBack_30
theorem yo_X0_takeBack : yOk yX0_takeBack 1 := ⟨by decide, by decide, by decide +kernel⟩

def sh_X2_length (G : gG) : Int32 := (G 65 1)
set_option maxRecDepth 100000 in
set_option maxHeartbeats 4000000 in
theorem c_X2_length (l : Launch) (D : va_G) (t : gT) (ad : Nat → Nat) (hI : gI ad) {G : gG} {r0 : Int32} (hsh : sh_X2_length G = r0) : Mi l D t ad yX2_length cX2_length 1 (some .int) (rM 0 0) [.ref (ad 65)] G r0 G := by
  refine m_go hI RX2 rfl (by decide +kernel) ⟨rfl, rfl⟩ (Nat.le_of_ble_eq_true rfl) rfl [some (.ref (ad 65))] rfl (fun p e s m args below meth c C => ?_)
  unfold sh_X2_length at hsh
  refine v_aloadn C dX2_length_0 rfl ?_
  refine f2_1 C dX2_length_1 ?_
  subst hsh
  exact v_iret C dX2_length_4
theorem yo_X2_length : yOk yX2_length 0 := ⟨by decide, by decide, by decide +kernel⟩
