def sh_L_low (l0 : Int32) (l1 : Int32) : Option (Int32) := (if nzB l1 = true then some ((l0 &&& (2147483647 : Int32)) - (l0 &&& (2147483647 : Int32)) / l1 * l1) else none)
set_option maxRecDepth 100000 in
set_option maxHeartbeats 4000000 in
theorem c_L_low (l : Launch) (D : va_G) (t : gT) (ad : Nat → Nat) (hI : gI ad) {l0 : Int32} {l1 : Int32} {G : gG} {r0 : Int32} (hsh : sh_L_low l0 l1 = some r0) : Mi l D t ad yL_low cL_low 2 (some .int) (rM 0 0) [.int l0, .int l1] G r0 G := by
  refine m_go hI RL rfl (by decide +kernel) ⟨rfl, rfl⟩ (Nat.le_of_ble_eq_true rfl) rfl [some (.int l0), some (.int l1)] rfl (fun p e s m args below meth c C => ?_)
  unfold sh_L_low at hsh
  refine v_iloadn C dL_low_0 rfl ?_
  refine v_ldc C k392 dL_low_1 ?_
  refine v_iand C dL_low_3 ?_
  refine v_iloadn C dL_low_4 rfl ?_
  obtain ⟨h1, hsh⟩ := g_if hsh
  refine v_irem C dL_low_5 (nzB_n h1) ?_
  obtain rfl := so_1 hsh
  exact v_iret C dL_low_6
theorem yo_L_low : yOk yL_low 2 := ⟨by decide, by decide, by decide +kernel⟩

def sh_L_isOn (l1 : Int32) (G : gG) : Option (Int32) := (obp (sh_X3_lamp l1 (2 : Int32) G) fun r2 => (if r2 = (1 : Int32) then some (1 : Int32) else some (0 : Int32)))
set_option maxRecDepth 100000 in
set_option maxHeartbeats 4000000 in
theorem c_L_isOn (l : Launch) (D : va_G) (t : gT) (ad : Nat → Nat) (hI : gI ad) {l1 : Int32} {G : gG} {r0 : Int32} (hsh : sh_L_isOn l1 G = some r0) : Mi l D t ad yL_isOn cL_isOn 2 (some .boolean) (rM 5 112) [.ref (ad 70), .int l1] G r0 G := by
  refine m_go hI RL rfl (by decide +kernel) ⟨rfl, rfl⟩ (Nat.le_of_ble_eq_true rfl) rfl [some (.ref (ad 70)), some (.int l1)] rfl (fun p e s m args below meth c C => ?_)
  unfold sh_L_isOn at hsh
  refine v_aloadn C dL_isOn_0 rfl ?_
  refine v_iloadn C dL_isOn_1 rfl ?_
  refine v_iconst C dL_isOn_2 (v := 2) (by decide) ?_
  obtain ⟨r2, e1, hsh⟩ := obp_e hsh
  refine v_callI (nP := 2) (k := 70) C (by decide) rfl rfl (c_X3_lamp l D t ad hI  e1) k251 k248 k249 k250 k1 yo_X3_lamp ⟨Nat.le_of_ble_eq_true rfl, Nat.le_of_ble_eq_true rfl, rfl, rfl, Nat.zero_le _, Nat.zero_le _⟩ rfl rfl (Nat.le_of_ble_eq_true rfl) dL_isOn_3 ?_
  refine v_iconst C dL_isOn_6 (v := 1) (by decide) ?_
  refine v_ic_ne C 14 dL_isOn_7 (by decide) (fun hc => ?_) (fun hc => ?_)
  · replace hsh := ite_n hc hsh
    refine v_iconst C dL_isOn_14 (v := 0) (by decide) ?_
    obtain rfl := so_1 hsh
    exact v_zret C (Or.inl rfl) dL_isOn_15
  · replace hsh := ite_p hc hsh
    refine v_iconst C dL_isOn_10 (v := 1) (by decide) ?_
    refine v_goto C 15 dL_isOn_11 (by decide) ?_
    obtain rfl := so_1 hsh
    exact v_zret C (Or.inr rfl) dL_isOn_15
theorem yo_L_isOn : yOk yL_isOn 2 := ⟨by decide, by decide, by decide +kernel⟩

def sh_L_isThere (l1 : Int32) (G : gG) : Option (Int32) := (obp (sh_X3_lamp l1 (0 : Int32) G) fun r2 => (if r2 < (0 : Int32) then some (0 : Int32) else some (1 : Int32)))
set_option maxRecDepth 100000 in
set_option maxHeartbeats 4000000 in
theorem c_L_isThere (l : Launch) (D : va_G) (t : gT) (ad : Nat → Nat) (hI : gI ad) {l1 : Int32} {G : gG} {r0 : Int32} (hsh : sh_L_isThere l1 G = some r0) : Mi l D t ad yL_isThere cL_isThere 2 (some .boolean) (rM 5 112) [.ref (ad 70), .int l1] G r0 G := by
  refine m_go hI RL rfl (by decide +kernel) ⟨rfl, rfl⟩ (Nat.le_of_ble_eq_true rfl) rfl [some (.ref (ad 70)), some (.int l1)] rfl (fun p e s m args below meth c C => ?_)
  unfold sh_L_isThere at hsh
  refine v_aloadn C dL_isThere_0 rfl ?_
  refine v_iloadn C dL_isThere_1 rfl ?_
  refine v_iconst C dL_isThere_2 (v := 0) (by decide) ?_
  obtain ⟨r2, e1, hsh⟩ := obp_e hsh
  refine v_callI (nP := 2) (k := 70) C (by decide) rfl rfl (c_X3_lamp l D t ad hI  e1) k251 k248 k249 k250 k1 yo_X3_lamp ⟨Nat.le_of_ble_eq_true rfl, Nat.le_of_ble_eq_true rfl, rfl, rfl, Nat.zero_le _, Nat.zero_le _⟩ rfl rfl (Nat.le_of_ble_eq_true rfl) dL_isThere_3 ?_
  refine v_if_lt C 13 dL_isThere_6 (by decide) (fun hc => ?_) (fun hc => ?_)
  · replace hsh := ite_p hc hsh
    refine v_iconst C dL_isThere_13 (v := 0) (by decide) ?_
    obtain rfl := so_1 hsh
    exact v_zret C (Or.inl rfl) dL_isThere_14
  · replace hsh := ite_n hc hsh
    refine v_iconst C dL_isThere_9 (v := 1) (by decide) ?_
    refine v_goto C 14 dL_isThere_10 (by decide) ?_
    obtain rfl := so_1 hsh
    exact v_zret C (Or.inr rfl) dL_isThere_14
theorem yo_L_isThere : yOk yL_isThere 2 := ⟨by decide, by decide, by decide +kernel⟩

def sh_L_isLamp_j363 (G : gG) (kt379 : Int32 → Option (Int32)) (self174 : Int32 → Int32 → Int32 → Int32 → Int32 → Int32 → Int32 → Option (Int32)) (l1 : Int32) (l2 : Int32) (l3 : Int32) (l4 : Int32) (l5 : Int32) (l7 : Int32) (x0 : Int32) (x1 : Int32) : Option (Int32) := (if x0 = x1 then self174 l1 l2 l3 l4 l5 (1 : Int32) (l7 + 1) else self174 l1 l2 l3 l4 l5 (0 : Int32) (l7 + 1))
def sh_L_isLamp_j362 (G : gG) (kt379 : Int32 → Option (Int32)) (self174 : Int32 → Int32 → Int32 → Int32 → Int32 → Int32 → Int32 → Option (Int32)) (l1 : Int32) (l2 : Int32) (l3 : Int32) (l4 : Int32) (l5 : Int32) (l7 : Int32) (x0 : Int32) : Option (Int32) := (sh_L_isLamp_j363 G kt379 self174 l1 l2 l3 l4 l5 l7 x0 (0 : Int32))
def sh_L_isLamp_j328 (G : gG) (kt379 : Int32 → Option (Int32)) (self174 : Int32 → Int32 → Int32 → Int32 → Int32 → Int32 → Int32 → Option (Int32)) (l1 : Int32) (l2 : Int32) (l3 : Int32) (l4 : Int32) (l5 : Int32) (l7 : Int32) (x0 : Int32) : Option (Int32) := (if l5 = (0 : Int32) then (sh_L_isLamp_j362 G kt379 self174 l1 l2 l3 l4 l5 l7 x0) else (obp (sh_L_isOn l7 G) fun r14 => (if r14 = (0 : Int32) then (sh_L_isLamp_j362 G kt379 self174 l1 l2 l3 l4 l5 l7 x0) else (obp (sh_X3_lamp l7 (0 : Int32) G) fun r16 => (obp (sh_X3_lamp l1 (0 : Int32) G) fun r18 => (if r16 = r18 then (sh_L_isLamp_j363 G kt379 self174 l1 l2 l3 l4 l5 l7 x0 (1 : Int32)) else (sh_L_isLamp_j362 G kt379 self174 l1 l2 l3 l4 l5 l7 x0)))))))
def sh_L_isLamp_j312 (G : gG) (kt379 : Int32 → Option (Int32)) (self174 : Int32 → Int32 → Int32 → Int32 → Int32 → Int32 → Int32 → Option (Int32)) (l1 : Int32) (l2 : Int32) (l3 : Int32) (l4 : Int32) (l5 : Int32) (l7 : Int32) : Option (Int32) := (if ((l4 >>> (l7 &&& 31)) &&& (1 : Int32)) = (1 : Int32) then (sh_L_isLamp_j328 G kt379 self174 l1 l2 l3 l4 l5 l7 (1 : Int32)) else (sh_L_isLamp_j328 G kt379 self174 l1 l2 l3 l4 l5 l7 (0 : Int32)))
def sh_L_isLamp_j288 (G : gG) (kt379 : Int32 → Option (Int32)) (self174 : Int32 → Int32 → Int32 → Int32 → Int32 → Int32 → Int32 → Option (Int32)) (l1 : Int32) (l2 : Int32) (l3 : Int32) (l4 : Int32) (l5 : Int32) (l7 : Int32) (l8 : Int32) (l9 : Int32) : Option (Int32) := (if l8 = (0 : Int32) then (sh_L_isLamp_j312 G kt379 self174 l1 l2 l3 l4 l5 l7) else (if l5 = (0 : Int32) then (sh_L_isLamp_j312 G kt379 self174 l1 l2 l3 l4 l5 l7) else (obp (sh_L_isOn l7 G) fun r20 => (if r20 = (0 : Int32) then (sh_L_isLamp_j312 G kt379 self174 l1 l2 l3 l4 l5 l7) else (if l9 = (0 : Int32) then self174 l1 l2 l3 l4 l5 (0 : Int32) (l7 + 1) else (sh_L_isLamp_j312 G kt379 self174 l1 l2 l3 l4 l5 l7))))))
def sh_L_isLamp_j255 (G : gG) (kt379 : Int32 → Option (Int32)) (self174 : Int32 → Int32 → Int32 → Int32 → Int32 → Int32 → Int32 → Option (Int32)) (l1 : Int32) (l2 : Int32) (l3 : Int32) (l4 : Int32) (l5 : Int32) (l7 : Int32) (l8 : Int32) (l9 : Int32) (x0 : Int32) : Option (Int32) := (if x0 = (0 : Int32) then self174 l1 l2 l3 l4 l5 (0 : Int32) (l7 + 1) else (if l9 = (0 : Int32) then (sh_L_isLamp_j288 G kt379 self174 l1 l2 l3 l4 l5 l7 l8 l9) else (obp (sh_L_isOn l7 G) fun r22 => (if r22 = (0 : Int32) then self174 l1 l2 l3 l4 l5 (0 : Int32) (l7 + 1) else (obp (sh_X3_lamp l7 (7 : Int32) G) fun r24 => (if r24 = l3 then (sh_L_isLamp_j288 G kt379 self174 l1 l2 l3 l4 l5 l7 l8 l9) else self174 l1 l2 l3 l4 l5 (0 : Int32) (l7 + 1)))))))
def sh_L_isLamp_j250 (G : gG) (kt379 : Int32 → Option (Int32)) (self174 : Int32 → Int32 → Int32 → Int32 → Int32 → Int32 → Int32 → Option (Int32)) (l1 : Int32) (l2 : Int32) (l3 : Int32) (l4 : Int32) (l5 : Int32) (l7 : Int32) (l8 : Int32) (l9 : Int32) : Option (Int32) := (sh_L_isLamp_j255 G kt379 self174 l1 l2 l3 l4 l5 l7 l8 l9 (1 : Int32))
def sh_L_isLamp_j254 (G : gG) (kt379 : Int32 → Option (Int32)) (self174 : Int32 → Int32 → Int32 → Int32 → Int32 → Int32 → Int32 → Option (Int32)) (l1 : Int32) (l2 : Int32) (l3 : Int32) (l4 : Int32) (l5 : Int32) (l7 : Int32) (l8 : Int32) (l9 : Int32) : Option (Int32) := (sh_L_isLamp_j255 G kt379 self174 l1 l2 l3 l4 l5 l7 l8 l9 (0 : Int32))
def sh_L_isLamp_j218 (G : gG) (kt379 : Int32 → Option (Int32)) (self174 : Int32 → Int32 → Int32 → Int32 → Int32 → Int32 → Int32 → Option (Int32)) (l1 : Int32) (l2 : Int32) (l3 : Int32) (l4 : Int32) (l5 : Int32) (l7 : Int32) (l8 : Int32) (x0 : Int32) : Option (Int32) := (if l8 = (0 : Int32) then (sh_L_isLamp_j250 G kt379 self174 l1 l2 l3 l4 l5 l7 l8 x0) else (obp (sh_L_isThere l7 G) fun r26 => (if r26 = (0 : Int32) then (sh_L_isLamp_j254 G kt379 self174 l1 l2 l3 l4 l5 l7 l8 x0) else (obp (sh_X3_lamp l7 (6 : Int32) G) fun r28 => (if ((r28 >>> (l1 &&& 31)) &&& (1 : Int32)) = (1 : Int32) then (sh_L_isLamp_j250 G kt379 self174 l1 l2 l3 l4 l5 l7 l8 x0) else (sh_L_isLamp_j254 G kt379 self174 l1 l2 l3 l4 l5 l7 l8 x0))))))
def sh_L_isLamp_j201 (G : gG) (kt379 : Int32 → Option (Int32)) (self174 : Int32 → Int32 → Int32 → Int32 → Int32 → Int32 → Int32 → Option (Int32)) (l1 : Int32) (l2 : Int32) (l3 : Int32) (l4 : Int32) (l5 : Int32) (l7 : Int32) (x0 : Int32) : Option (Int32) := (if ((l3 >>> (l7 &&& 31)) &&& (1 : Int32)) = (1 : Int32) then (sh_L_isLamp_j218 G kt379 self174 l1 l2 l3 l4 l5 l7 x0 (1 : Int32)) else (sh_L_isLamp_j218 G kt379 self174 l1 l2 l3 l4 l5 l7 x0 (0 : Int32)))
def sh_L_isLamp_174 (G : gG) (kt379 : Int32 → Option (Int32)) : Nat → Int32 → Int32 → Int32 → Int32 → Int32 → Int32 → Int32 → Option (Int32)
  | 0, _, _, _, _, _, _, _ => none
  | n + 1, l1, l2, l3, l4, l5, l6, l7 => (if (16 : Int32) ≤ l7 then kt379 l6 else (if l6 = (0 : Int32) then kt379 l6 else (if ((l2 >>> (l7 &&& 31)) &&& (1 : Int32)) = (1 : Int32) then (sh_L_isLamp_j201 G kt379 (sh_L_isLamp_174 G kt379 n) l1 l2 l3 l4 l5 l7 (1 : Int32)) else (sh_L_isLamp_j201 G kt379 (sh_L_isLamp_174 G kt379 n) l1 l2 l3 l4 l5 l7 (0 : Int32)))))
def sh_L_isLamp_j159 (G : gG) (l1 : Int32) (l2 : Int32) (l3 : Int32) (l4 : Int32) (l5 : Int32) (x0 : Int32) : Option (Int32) := (if x0 = l5 then (sh_L_isLamp_174 G (fun l6 => (if nbB l6 = true then some l6 else none)) FU l1 l2 l3 l4 l5 (1 : Int32) (0 : Int32)) else (sh_L_isLamp_174 G (fun l6 => (if nbB l6 = true then some l6 else none)) FU l1 l2 l3 l4 l5 (0 : Int32) (0 : Int32)))
def sh_L_isLamp_j144 (G : gG) (l1 : Int32) (l2 : Int32) (l3 : Int32) (l4 : Int32) (l5 : Int32) (x0 : Int32) : Option (Int32) := (if x0 = l5 then (if l4 = (0 : Int32) then (sh_L_isLamp_j159 G l1 l2 l3 l4 l5 (0 : Int32)) else (sh_L_isLamp_j159 G l1 l2 l3 l4 l5 (1 : Int32))) else (sh_L_isLamp_174 G (fun l6 => (if nbB l6 = true then some l6 else none)) FU l1 l2 l3 l4 l5 (0 : Int32) (0 : Int32)))
def sh_L_isLamp_j124 (G : gG) (l1 : Int32) (l2 : Int32) (l3 : Int32) (l4 : Int32) (l5 : Int32) (x0 : Int32) (x1 : Int32) : Option (Int32) := (if x0 = x1 then (if ((l2 >>> (l1 &&& 31)) &&& (1 : Int32)) = (0 : Int32) then (if l3 = (0 : Int32) then (sh_L_isLamp_j144 G l1 l2 l3 l4 l5 (0 : Int32)) else (sh_L_isLamp_j144 G l1 l2 l3 l4 l5 (1 : Int32))) else (sh_L_isLamp_174 G (fun l6 => (if nbB l6 = true then some l6 else none)) FU l1 l2 l3 l4 l5 (0 : Int32) (0 : Int32))) else (sh_L_isLamp_174 G (fun l6 => (if nbB l6 = true then some l6 else none)) FU l1 l2 l3 l4 l5 (0 : Int32) (0 : Int32)))
def sh_L_isLamp_j110 (G : gG) (l1 : Int32) (l2 : Int32) (l3 : Int32) (l4 : Int32) (l5 : Int32) (x0 : Int32) : Option (Int32) := (obp (sh_X3_lamp l1 (5 : Int32) G) fun r42 => (if r42 = (0 : Int32) then (sh_L_isLamp_j124 G l1 l2 l3 l4 l5 x0 (1 : Int32)) else (sh_L_isLamp_j124 G l1 l2 l3 l4 l5 x0 (0 : Int32))))
def sh_L_isLamp (l1 : Int32) (G : gG) : Option (Int32) := (obp (sh_X3_lamp l1 (6 : Int32) G) fun r2 => (obp (sh_X3_lamp l1 (7 : Int32) G) fun r4 => (obp (sh_X3_lamp l1 (8 : Int32) G) fun r6 => (obp (sh_L_isOn l1 G) fun r8 => (obp (sh_X3_lamp l1 (0 : Int32) G) fun r10 => (obp (sh_X3_count (9 : Int32) G) fun r12 => (if ((100 : Int32) * r12) ≤ r10 then (sh_L_isLamp_174 G (fun l6 => (if nbB l6 = true then some l6 else none)) FU l1 r2 r4 r6 r8 (0 : Int32) (0 : Int32)) else (obp (sh_X3_lamp l1 (1 : Int32) G) fun r30 => (if r30 < (50 : Int32) then (sh_L_isLamp_174 G (fun l6 => (if nbB l6 = true then some l6 else none)) FU l1 r2 r4 r6 r8 (0 : Int32) (0 : Int32)) else (obp (sh_X3_lamp l1 (1 : Int32) G) fun r32 => (if (150 : Int32) < r32 then (sh_L_isLamp_174 G (fun l6 => (if nbB l6 = true then some l6 else none)) FU l1 r2 r4 r6 r8 (0 : Int32) (0 : Int32)) else (obp (sh_X3_lamp l1 (3 : Int32) G) fun r34 => (if r34 < (0 : Int32) then (sh_L_isLamp_174 G (fun l6 => (if nbB l6 = true then some l6 else none)) FU l1 r2 r4 r6 r8 (0 : Int32) (0 : Int32)) else (obp (sh_X3_lamp l1 (5 : Int32) G) fun r36 => (obp (sh_X3_count (0 : Int32) G) fun r38 => (if r38 < r36 then (sh_L_isLamp_174 G (fun l6 => (if nbB l6 = true then some l6 else none)) FU l1 r2 r4 r6 r8 (0 : Int32) (0 : Int32)) else (obp (sh_X3_lamp l1 (4 : Int32) G) fun r40 => (if r40 = (0 : Int32) then (sh_L_isLamp_j110 G l1 r2 r4 r6 r8 (1 : Int32)) else (sh_L_isLamp_j110 G l1 r2 r4 r6 r8 (0 : Int32))))))))))))))))))))
set_option maxRecDepth 100000 in
set_option maxHeartbeats 4000000 in
theorem lp_L_isLamp_174 {p : Program} {l : Launch} {e : Env} {s : State} {m : MethodId} {args : Array Value} {below : List Frame} {meth : Method} {c : Code} {D : va_G} {t : gT} {ad : Nat → Nat} (C : gC p s m args meth c cL_isLamp RL 10 (some .boolean) (isW ad) D t ad) (hI : gI ad) {G : gG} {r0 : Int32} {kt379 : Int32 → Option (Int32)} (hk379 : ∀ (l6 : Int32) , kt379 l6 = some r0 → V p l e (rM 6 133) s m args below meth c (isW ad) D t ad 0 0 10 (Qi below D t ad args s r0 G) G 379 [none, none, none, none, none, none, some (.int l6), none, none, none] []) : ∀ (n : Nat) (l1 : Int32) (l2 : Int32) (l3 : Int32) (l4 : Int32) (l5 : Int32) (l6 : Int32) (l7 : Int32) , sh_L_isLamp_174 G kt379 n l1 l2 l3 l4 l5 l6 l7 = some r0 → V p l e (rM 6 133) s m args below meth c (isW ad) D t ad 0 0 10 (Qi below D t ad args s r0 G) G 174 [some (.ref (ad 70)), some (.int l1), some (.int l2), some (.int l3), some (.int l4), some (.int l5), some (.int l6), some (.int l7), none, none] [] := by
  intro n
  induction n with
  | zero => intro l1 l2 l3 l4 l5 l6 l7 hsh; rw [sh_L_isLamp_174.eq_1] at hsh; cases hsh
  | succ n ih =>
    intro l1 l2 l3 l4 l5 l6 l7 hsh
    rw [sh_L_isLamp_174.eq_2] at hsh
    have hj363 : ∀ (l1 : Int32) (l2 : Int32) (l3 : Int32) (l4 : Int32) (l5 : Int32) (l7 : Int32) (x0 : Int32) (x1 : Int32) , sh_L_isLamp_j363 G kt379 (sh_L_isLamp_174 G kt379 n) l1 l2 l3 l4 l5 l7 x0 x1 = some r0 → V p l e (rM 6 133) s m args below meth c (isW ad) D t ad 0 0 10 (Qi below D t ad args s r0 G) G 363 [some (.ref (ad 70)), some (.int l1), some (.int l2), some (.int l3), some (.int l4), some (.int l5), none, some (.int l7), none, none] [.int x1, .int x0] := by
      intro l1 l2 l3 l4 l5 l7 x0 x1 hsh
      unfold sh_L_isLamp_j363 at hsh
      refine v_ic_ne C 370 dL_isLamp_363 (by decide) (fun hc => ?_) (fun hc => ?_)
      · replace hsh := ite_n hc hsh
        refine v_iconst C dL_isLamp_370 (v := 0) (by decide) ?_
        refine v_istore C dL_isLamp_371 (by decide) ?_
        refine v_iinc C dL_isLamp_373 rfl (v := 1) (by decide) (by decide) ?_
        refine v_goto C 174 dL_isLamp_376 (by decide) ?_
        exact v_wk (ih _ _ _ _ _ _ _ hsh) (wk_of (And.intro rfl (And.intro rfl (And.intro rfl (And.intro rfl (And.intro rfl (And.intro rfl (And.intro rfl (And.intro rfl trivial)))))))))
      · replace hsh := ite_p hc hsh
        refine v_iconst C dL_isLamp_366 (v := 1) (by decide) ?_
        refine v_goto C 371 dL_isLamp_367 (by decide) ?_
        refine v_istore C dL_isLamp_371 (by decide) ?_
        refine v_iinc C dL_isLamp_373 rfl (v := 1) (by decide) (by decide) ?_
        refine v_goto C 174 dL_isLamp_376 (by decide) ?_
        exact v_wk (ih _ _ _ _ _ _ _ hsh) (wk_of (And.intro rfl (And.intro rfl (And.intro rfl (And.intro rfl (And.intro rfl (And.intro rfl (And.intro rfl (And.intro rfl trivial)))))))))
    have hj362 : ∀ (l1 : Int32) (l2 : Int32) (l3 : Int32) (l4 : Int32) (l5 : Int32) (l7 : Int32) (x0 : Int32) , sh_L_isLamp_j362 G kt379 (sh_L_isLamp_174 G kt379 n) l1 l2 l3 l4 l5 l7 x0 = some r0 → V p l e (rM 6 133) s m args below meth c (isW ad) D t ad 0 0 10 (Qi below D t ad args s r0 G) G 362 [some (.ref (ad 70)), some (.int l1), some (.int l2), some (.int l3), some (.int l4), some (.int l5), none, some (.int l7), none, none] [.int x0] := by
      intro l1 l2 l3 l4 l5 l7 x0 hsh
      unfold sh_L_isLamp_j362 at hsh
      refine v_iconst C dL_isLamp_362 (v := 0) (by decide) ?_
      exact v_wk (hj363 _ _ _ _ _ _ _ _ hsh) (wk_of (And.intro rfl (And.intro rfl (And.intro rfl (And.intro rfl (And.intro rfl (And.intro rfl (And.intro rfl trivial))))))))
    have hj328 : ∀ (l1 : Int32) (l2 : Int32) (l3 : Int32) (l4 : Int32) (l5 : Int32) (l7 : Int32) (x0 : Int32) , sh_L_isLamp_j328 G kt379 (sh_L_isLamp_174 G kt379 n) l1 l2 l3 l4 l5 l7 x0 = some r0 → V p l e (rM 6 133) s m args below meth c (isW ad) D t ad 0 0 10 (Qi below D t ad args s r0 G) G 328 [some (.ref (ad 70)), some (.int l1), some (.int l2), some (.int l3), some (.int l4), some (.int l5), none, some (.int l7), none, none] [.int x0] := by
      intro l1 l2 l3 l4 l5 l7 x0 hsh
      unfold sh_L_isLamp_j328 at hsh
      refine v_iload C dL_isLamp_328 rfl ?_
      refine v_if_eq C 362 dL_isLamp_330 (by decide) (fun hc => ?_) (fun hc => ?_)
      · replace hsh := ite_p hc hsh
        exact v_wk (hj362 _ _ _ _ _ _ _ hsh) (wk_of (And.intro rfl (And.intro rfl (And.intro rfl (And.intro rfl (And.intro rfl (And.intro rfl (And.intro rfl trivial))))))))
      · replace hsh := ite_n hc hsh
        refine v_aloadn C dL_isLamp_333 rfl ?_
        refine v_iload C dL_isLamp_334 rfl ?_
        obtain ⟨r14, e13, hsh⟩ := obp_e hsh
        refine v_callS (nP := 2) C (c_L_isOn l D t ad hI  e13) k274 k272 k273 k0 yo_L_isOn ⟨Nat.le_of_ble_eq_true rfl, Nat.le_of_ble_eq_true rfl, rfl, rfl, Nat.zero_le _, Nat.zero_le _⟩ rfl rfl (Nat.le_of_ble_eq_true rfl) dL_isLamp_336 ?_
        refine v_if_eq C 362 dL_isLamp_339 (by decide) (fun hc => ?_) (fun hc => ?_)
        · replace hsh := ite_p hc hsh
          exact v_wk (hj362 _ _ _ _ _ _ _ hsh) (wk_of (And.intro rfl (And.intro rfl (And.intro rfl (And.intro rfl (And.intro rfl (And.intro rfl (And.intro rfl trivial))))))))
        · replace hsh := ite_n hc hsh
          refine v_aloadn C dL_isLamp_342 rfl ?_
          refine v_iload C dL_isLamp_343 rfl ?_
          refine v_iconst C dL_isLamp_345 (v := 0) (by decide) ?_
          obtain ⟨r16, e15, hsh⟩ := obp_e hsh
          refine v_callI (nP := 2) (k := 70) C (by decide) rfl rfl (c_X3_lamp l D t ad hI  e15) k251 k248 k249 k250 k1 yo_X3_lamp ⟨Nat.le_of_ble_eq_true rfl, Nat.le_of_ble_eq_true rfl, rfl, rfl, Nat.zero_le _, Nat.zero_le _⟩ rfl rfl (Nat.le_of_ble_eq_true rfl) dL_isLamp_346 ?_
          refine v_aloadn C dL_isLamp_349 rfl ?_
          refine v_iloadn C dL_isLamp_350 rfl ?_
          refine v_iconst C dL_isLamp_351 (v := 0) (by decide) ?_
          obtain ⟨r18, e17, hsh⟩ := obp_e hsh
          refine v_callI (nP := 2) (k := 70) C (by decide) rfl rfl (c_X3_lamp l D t ad hI  e17) k251 k248 k249 k250 k1 yo_X3_lamp ⟨Nat.le_of_ble_eq_true rfl, Nat.le_of_ble_eq_true rfl, rfl, rfl, Nat.zero_le _, Nat.zero_le _⟩ rfl rfl (Nat.le_of_ble_eq_true rfl) dL_isLamp_352 ?_
          refine v_ic_ne C 362 dL_isLamp_355 (by decide) (fun hc => ?_) (fun hc => ?_)
          · replace hsh := ite_n hc hsh
            exact v_wk (hj362 _ _ _ _ _ _ _ hsh) (wk_of (And.intro rfl (And.intro rfl (And.intro rfl (And.intro rfl (And.intro rfl (And.intro rfl (And.intro rfl trivial))))))))
          · replace hsh := ite_p hc hsh
            refine v_iconst C dL_isLamp_358 (v := 1) (by decide) ?_
            refine v_goto C 363 dL_isLamp_359 (by decide) ?_
            exact v_wk (hj363 _ _ _ _ _ _ _ _ hsh) (wk_of (And.intro rfl (And.intro rfl (And.intro rfl (And.intro rfl (And.intro rfl (And.intro rfl (And.intro rfl trivial))))))))
    have hj312 : ∀ (l1 : Int32) (l2 : Int32) (l3 : Int32) (l4 : Int32) (l5 : Int32) (l7 : Int32) , sh_L_isLamp_j312 G kt379 (sh_L_isLamp_174 G kt379 n) l1 l2 l3 l4 l5 l7 = some r0 → V p l e (rM 6 133) s m args below meth c (isW ad) D t ad 0 0 10 (Qi below D t ad args s r0 G) G 312 [some (.ref (ad 70)), some (.int l1), some (.int l2), some (.int l3), some (.int l4), some (.int l5), none, some (.int l7), none, none] [] := by
      intro l1 l2 l3 l4 l5 l7 hsh
      unfold sh_L_isLamp_j312 at hsh
      refine v_iload C dL_isLamp_312 rfl ?_
      refine v_iload C dL_isLamp_314 rfl ?_
      refine v_ishr C dL_isLamp_316 ?_
      refine v_iconst C dL_isLamp_317 (v := 1) (by decide) ?_
      refine v_iand C dL_isLamp_318 ?_
      refine v_iconst C dL_isLamp_319 (v := 1) (by decide) ?_
      refine v_ic_ne C 327 dL_isLamp_320 (by decide) (fun hc => ?_) (fun hc => ?_)
      · replace hsh := ite_n hc hsh
        refine v_iconst C dL_isLamp_327 (v := 0) (by decide) ?_
        exact v_wk (hj328 _ _ _ _ _ _ _ hsh) (wk_of (And.intro rfl (And.intro rfl (And.intro rfl (And.intro rfl (And.intro rfl (And.intro rfl (And.intro rfl trivial))))))))
      · replace hsh := ite_p hc hsh
        refine v_iconst C dL_isLamp_323 (v := 1) (by decide) ?_
        refine v_goto C 328 dL_isLamp_324 (by decide) ?_
        exact v_wk (hj328 _ _ _ _ _ _ _ hsh) (wk_of (And.intro rfl (And.intro rfl (And.intro rfl (And.intro rfl (And.intro rfl (And.intro rfl (And.intro rfl trivial))))))))
    have hj288 : ∀ (l1 : Int32) (l2 : Int32) (l3 : Int32) (l4 : Int32) (l5 : Int32) (l7 : Int32) (l8 : Int32) (l9 : Int32) , sh_L_isLamp_j288 G kt379 (sh_L_isLamp_174 G kt379 n) l1 l2 l3 l4 l5 l7 l8 l9 = some r0 → V p l e (rM 6 133) s m args below meth c (isW ad) D t ad 0 0 10 (Qi below D t ad args s r0 G) G 288 [some (.ref (ad 70)), some (.int l1), some (.int l2), some (.int l3), some (.int l4), some (.int l5), none, some (.int l7), some (.int l8), some (.int l9)] [] := by
      intro l1 l2 l3 l4 l5 l7 l8 l9 hsh
      unfold sh_L_isLamp_j288 at hsh
      refine v_iload C dL_isLamp_288 rfl ?_
      refine v_if_eq C 312 dL_isLamp_290 (by decide) (fun hc => ?_) (fun hc => ?_)
      · replace hsh := ite_p hc hsh
        exact v_wk (hj312 _ _ _ _ _ _ hsh) (wk_of (And.intro rfl (And.intro rfl (And.intro rfl (And.intro rfl (And.intro rfl (And.intro rfl (And.intro rfl trivial))))))))
      · replace hsh := ite_n hc hsh
        refine v_iload C dL_isLamp_293 rfl ?_
        refine v_if_eq C 312 dL_isLamp_295 (by decide) (fun hc => ?_) (fun hc => ?_)
        · replace hsh := ite_p hc hsh
          exact v_wk (hj312 _ _ _ _ _ _ hsh) (wk_of (And.intro rfl (And.intro rfl (And.intro rfl (And.intro rfl (And.intro rfl (And.intro rfl (And.intro rfl trivial))))))))
        · replace hsh := ite_n hc hsh
          refine v_aloadn C dL_isLamp_298 rfl ?_
          refine v_iload C dL_isLamp_299 rfl ?_
          obtain ⟨r20, e19, hsh⟩ := obp_e hsh
          refine v_callS (nP := 2) C (c_L_isOn l D t ad hI  e19) k274 k272 k273 k0 yo_L_isOn ⟨Nat.le_of_ble_eq_true rfl, Nat.le_of_ble_eq_true rfl, rfl, rfl, Nat.zero_le _, Nat.zero_le _⟩ rfl rfl (Nat.le_of_ble_eq_true rfl) dL_isLamp_301 ?_
          refine v_if_eq C 312 dL_isLamp_304 (by decide) (fun hc => ?_) (fun hc => ?_)
          · replace hsh := ite_p hc hsh
            exact v_wk (hj312 _ _ _ _ _ _ hsh) (wk_of (And.intro rfl (And.intro rfl (And.intro rfl (And.intro rfl (And.intro rfl (And.intro rfl (And.intro rfl trivial))))))))
          · replace hsh := ite_n hc hsh
            refine v_iload C dL_isLamp_307 rfl ?_
            refine v_if_eq C 370 dL_isLamp_309 (by decide) (fun hc => ?_) (fun hc => ?_)
            · replace hsh := ite_p hc hsh
              refine v_iconst C dL_isLamp_370 (v := 0) (by decide) ?_
              refine v_istore C dL_isLamp_371 (by decide) ?_
              refine v_iinc C dL_isLamp_373 rfl (v := 1) (by decide) (by decide) ?_
              refine v_goto C 174 dL_isLamp_376 (by decide) ?_
              exact v_wk (ih _ _ _ _ _ _ _ hsh) (wk_of (And.intro rfl (And.intro rfl (And.intro rfl (And.intro rfl (And.intro rfl (And.intro rfl (And.intro rfl (And.intro rfl trivial)))))))))
            · replace hsh := ite_n hc hsh
              exact v_wk (hj312 _ _ _ _ _ _ hsh) (wk_of (And.intro rfl (And.intro rfl (And.intro rfl (And.intro rfl (And.intro rfl (And.intro rfl (And.intro rfl trivial))))))))
    have hj255 : ∀ (l1 : Int32) (l2 : Int32) (l3 : Int32) (l4 : Int32) (l5 : Int32) (l7 : Int32) (l8 : Int32) (l9 : Int32) (x0 : Int32) , sh_L_isLamp_j255 G kt379 (sh_L_isLamp_174 G kt379 n) l1 l2 l3 l4 l5 l7 l8 l9 x0 = some r0 → V p l e (rM 6 133) s m args below meth c (isW ad) D t ad 0 0 10 (Qi below D t ad args s r0 G) G 255 [some (.ref (ad 70)), some (.int l1), some (.int l2), some (.int l3), some (.int l4), some (.int l5), none, some (.int l7), some (.int l8), some (.int l9)] [.int x0] := by
      intro l1 l2 l3 l4 l5 l7 l8 l9 x0 hsh
      unfold sh_L_isLamp_j255 at hsh
      refine v_istore C dL_isLamp_255 (by decide) ?_
      refine v_iload C dL_isLamp_257 rfl ?_
      refine v_if_eq C 370 dL_isLamp_259 (by decide) (fun hc => ?_) (fun hc => ?_)
      · replace hsh := ite_p hc hsh
        refine v_iconst C dL_isLamp_370 (v := 0) (by decide) ?_
        refine v_istore C dL_isLamp_371 (by decide) ?_
        refine v_iinc C dL_isLamp_373 rfl (v := 1) (by decide) (by decide) ?_
        refine v_goto C 174 dL_isLamp_376 (by decide) ?_
        exact v_wk (ih _ _ _ _ _ _ _ hsh) (wk_of (And.intro rfl (And.intro rfl (And.intro rfl (And.intro rfl (And.intro rfl (And.intro rfl (And.intro rfl (And.intro rfl trivial)))))))))
      · replace hsh := ite_n hc hsh
        refine v_iload C dL_isLamp_262 rfl ?_
        refine v_if_eq C 288 dL_isLamp_264 (by decide) (fun hc => ?_) (fun hc => ?_)
        · replace hsh := ite_p hc hsh
          exact v_wk (hj288 _ _ _ _ _ _ _ _ hsh) (wk_of (And.intro rfl (And.intro rfl (And.intro rfl (And.intro rfl (And.intro rfl (And.intro rfl (And.intro rfl (And.intro rfl (And.intro rfl trivial))))))))))
        · replace hsh := ite_n hc hsh
          refine v_aloadn C dL_isLamp_267 rfl ?_
          refine v_iload C dL_isLamp_268 rfl ?_
          obtain ⟨r22, e21, hsh⟩ := obp_e hsh
          refine v_callS (nP := 2) C (c_L_isOn l D t ad hI  e21) k274 k272 k273 k0 yo_L_isOn ⟨Nat.le_of_ble_eq_true rfl, Nat.le_of_ble_eq_true rfl, rfl, rfl, Nat.zero_le _, Nat.zero_le _⟩ rfl rfl (Nat.le_of_ble_eq_true rfl) dL_isLamp_270 ?_
          refine v_if_eq C 370 dL_isLamp_273 (by decide) (fun hc => ?_) (fun hc => ?_)
          · replace hsh := ite_p hc hsh
            refine v_iconst C dL_isLamp_370 (v := 0) (by decide) ?_
            refine v_istore C dL_isLamp_371 (by decide) ?_
            refine v_iinc C dL_isLamp_373 rfl (v := 1) (by decide) (by decide) ?_
            refine v_goto C 174 dL_isLamp_376 (by decide) ?_
            exact v_wk (ih _ _ _ _ _ _ _ hsh) (wk_of (And.intro rfl (And.intro rfl (And.intro rfl (And.intro rfl (And.intro rfl (And.intro rfl (And.intro rfl (And.intro rfl trivial)))))))))
          · replace hsh := ite_n hc hsh
            refine v_aloadn C dL_isLamp_276 rfl ?_
            refine v_iload C dL_isLamp_277 rfl ?_
            refine v_bipush C dL_isLamp_279 (v := 7) (by decide) ?_
            obtain ⟨r24, e23, hsh⟩ := obp_e hsh
            refine v_callI (nP := 2) (k := 70) C (by decide) rfl rfl (c_X3_lamp l D t ad hI  e23) k251 k248 k249 k250 k1 yo_X3_lamp ⟨Nat.le_of_ble_eq_true rfl, Nat.le_of_ble_eq_true rfl, rfl, rfl, Nat.zero_le _, Nat.zero_le _⟩ rfl rfl (Nat.le_of_ble_eq_true rfl) dL_isLamp_281 ?_
            refine v_iloadn C dL_isLamp_284 rfl ?_
            refine v_ic_ne C 370 dL_isLamp_285 (by decide) (fun hc => ?_) (fun hc => ?_)
            · replace hsh := ite_n hc hsh
              refine v_iconst C dL_isLamp_370 (v := 0) (by decide) ?_
              refine v_istore C dL_isLamp_371 (by decide) ?_
              refine v_iinc C dL_isLamp_373 rfl (v := 1) (by decide) (by decide) ?_
              refine v_goto C 174 dL_isLamp_376 (by decide) ?_
              exact v_wk (ih _ _ _ _ _ _ _ hsh) (wk_of (And.intro rfl (And.intro rfl (And.intro rfl (And.intro rfl (And.intro rfl (And.intro rfl (And.intro rfl (And.intro rfl trivial)))))))))
            · replace hsh := ite_p hc hsh
              exact v_wk (hj288 _ _ _ _ _ _ _ _ hsh) (wk_of (And.intro rfl (And.intro rfl (And.intro rfl (And.intro rfl (And.intro rfl (And.intro rfl (And.intro rfl (And.intro rfl (And.intro rfl trivial))))))))))
    have hj250 : ∀ (l1 : Int32) (l2 : Int32) (l3 : Int32) (l4 : Int32) (l5 : Int32) (l7 : Int32) (l8 : Int32) (l9 : Int32) , sh_L_isLamp_j250 G kt379 (sh_L_isLamp_174 G kt379 n) l1 l2 l3 l4 l5 l7 l8 l9 = some r0 → V p l e (rM 6 133) s m args below meth c (isW ad) D t ad 0 0 10 (Qi below D t ad args s r0 G) G 250 [some (.ref (ad 70)), some (.int l1), some (.int l2), some (.int l3), some (.int l4), some (.int l5), none, some (.int l7), some (.int l8), some (.int l9)] [] := by
      intro l1 l2 l3 l4 l5 l7 l8 l9 hsh
      unfold sh_L_isLamp_j250 at hsh
      refine v_iconst C dL_isLamp_250 (v := 1) (by decide) ?_
      refine v_goto C 255 dL_isLamp_251 (by decide) ?_
      exact v_wk (hj255 _ _ _ _ _ _ _ _ _ hsh) (wk_of (And.intro rfl (And.intro rfl (And.intro rfl (And.intro rfl (And.intro rfl (And.intro rfl (And.intro rfl (And.intro rfl (And.intro rfl trivial))))))))))
    have hj254 : ∀ (l1 : Int32) (l2 : Int32) (l3 : Int32) (l4 : Int32) (l5 : Int32) (l7 : Int32) (l8 : Int32) (l9 : Int32) , sh_L_isLamp_j254 G kt379 (sh_L_isLamp_174 G kt379 n) l1 l2 l3 l4 l5 l7 l8 l9 = some r0 → V p l e (rM 6 133) s m args below meth c (isW ad) D t ad 0 0 10 (Qi below D t ad args s r0 G) G 254 [some (.ref (ad 70)), some (.int l1), some (.int l2), some (.int l3), some (.int l4), some (.int l5), none, some (.int l7), some (.int l8), some (.int l9)] [] := by
      intro l1 l2 l3 l4 l5 l7 l8 l9 hsh
      unfold sh_L_isLamp_j254 at hsh
      refine v_iconst C dL_isLamp_254 (v := 0) (by decide) ?_
      exact v_wk (hj255 _ _ _ _ _ _ _ _ _ hsh) (wk_of (And.intro rfl (And.intro rfl (And.intro rfl (And.intro rfl (And.intro rfl (And.intro rfl (And.intro rfl (And.intro rfl (And.intro rfl trivial))))))))))
    have hj218 : ∀ (l1 : Int32) (l2 : Int32) (l3 : Int32) (l4 : Int32) (l5 : Int32) (l7 : Int32) (l8 : Int32) (x0 : Int32) , sh_L_isLamp_j218 G kt379 (sh_L_isLamp_174 G kt379 n) l1 l2 l3 l4 l5 l7 l8 x0 = some r0 → V p l e (rM 6 133) s m args below meth c (isW ad) D t ad 0 0 10 (Qi below D t ad args s r0 G) G 218 [some (.ref (ad 70)), some (.int l1), some (.int l2), some (.int l3), some (.int l4), some (.int l5), none, some (.int l7), some (.int l8), none] [.int x0] := by
      intro l1 l2 l3 l4 l5 l7 l8 x0 hsh
      unfold sh_L_isLamp_j218 at hsh
      refine v_istore C dL_isLamp_218 (by decide) ?_
      refine v_iload C dL_isLamp_220 rfl ?_
      refine v_if_eq C 250 dL_isLamp_222 (by decide) (fun hc => ?_) (fun hc => ?_)
      · replace hsh := ite_p hc hsh
        exact v_wk (hj250 _ _ _ _ _ _ _ _ hsh) (wk_of (And.intro rfl (And.intro rfl (And.intro rfl (And.intro rfl (And.intro rfl (And.intro rfl (And.intro rfl (And.intro rfl (And.intro rfl trivial))))))))))
      · replace hsh := ite_n hc hsh
        refine v_aloadn C dL_isLamp_225 rfl ?_
        refine v_iload C dL_isLamp_226 rfl ?_
        obtain ⟨r26, e25, hsh⟩ := obp_e hsh
        refine v_callS (nP := 2) C (c_L_isThere l D t ad hI  e25) k247 k245 k246 k0 yo_L_isThere ⟨Nat.le_of_ble_eq_true rfl, Nat.le_of_ble_eq_true rfl, rfl, rfl, Nat.zero_le _, Nat.zero_le _⟩ rfl rfl (Nat.le_of_ble_eq_true rfl) dL_isLamp_228 ?_
        refine v_if_eq C 254 dL_isLamp_231 (by decide) (fun hc => ?_) (fun hc => ?_)
        · replace hsh := ite_p hc hsh
          exact v_wk (hj254 _ _ _ _ _ _ _ _ hsh) (wk_of (And.intro rfl (And.intro rfl (And.intro rfl (And.intro rfl (And.intro rfl (And.intro rfl (And.intro rfl (And.intro rfl (And.intro rfl trivial))))))))))
        · replace hsh := ite_n hc hsh
          refine v_aloadn C dL_isLamp_234 rfl ?_
          refine v_iload C dL_isLamp_235 rfl ?_
          refine v_bipush C dL_isLamp_237 (v := 6) (by decide) ?_
          obtain ⟨r28, e27, hsh⟩ := obp_e hsh
          refine v_callI (nP := 2) (k := 70) C (by decide) rfl rfl (c_X3_lamp l D t ad hI  e27) k251 k248 k249 k250 k1 yo_X3_lamp ⟨Nat.le_of_ble_eq_true rfl, Nat.le_of_ble_eq_true rfl, rfl, rfl, Nat.zero_le _, Nat.zero_le _⟩ rfl rfl (Nat.le_of_ble_eq_true rfl) dL_isLamp_239 ?_
          refine v_iloadn C dL_isLamp_242 rfl ?_
          refine v_ishr C dL_isLamp_243 ?_
          refine v_iconst C dL_isLamp_244 (v := 1) (by decide) ?_
          refine v_iand C dL_isLamp_245 ?_
          refine v_iconst C dL_isLamp_246 (v := 1) (by decide) ?_
          refine v_ic_ne C 254 dL_isLamp_247 (by decide) (fun hc => ?_) (fun hc => ?_)
          · replace hsh := ite_n hc hsh
            exact v_wk (hj254 _ _ _ _ _ _ _ _ hsh) (wk_of (And.intro rfl (And.intro rfl (And.intro rfl (And.intro rfl (And.intro rfl (And.intro rfl (And.intro rfl (And.intro rfl (And.intro rfl trivial))))))))))
          · replace hsh := ite_p hc hsh
            exact v_wk (hj250 _ _ _ _ _ _ _ _ hsh) (wk_of (And.intro rfl (And.intro rfl (And.intro rfl (And.intro rfl (And.intro rfl (And.intro rfl (And.intro rfl (And.intro rfl (And.intro rfl trivial))))))))))
    have hj201 : ∀ (l1 : Int32) (l2 : Int32) (l3 : Int32) (l4 : Int32) (l5 : Int32) (l7 : Int32) (x0 : Int32) , sh_L_isLamp_j201 G kt379 (sh_L_isLamp_174 G kt379 n) l1 l2 l3 l4 l5 l7 x0 = some r0 → V p l e (rM 6 133) s m args below meth c (isW ad) D t ad 0 0 10 (Qi below D t ad args s r0 G) G 201 [some (.ref (ad 70)), some (.int l1), some (.int l2), some (.int l3), some (.int l4), some (.int l5), none, some (.int l7), none, none] [.int x0] := by
      intro l1 l2 l3 l4 l5 l7 x0 hsh
      unfold sh_L_isLamp_j201 at hsh
      refine v_istore C dL_isLamp_201 (by decide) ?_
      refine v_iloadn C dL_isLamp_203 rfl ?_
      refine v_iload C dL_isLamp_204 rfl ?_
      refine v_ishr C dL_isLamp_206 ?_
      refine v_iconst C dL_isLamp_207 (v := 1) (by decide) ?_
      refine v_iand C dL_isLamp_208 ?_
      refine v_iconst C dL_isLamp_209 (v := 1) (by decide) ?_
      refine v_ic_ne C 217 dL_isLamp_210 (by decide) (fun hc => ?_) (fun hc => ?_)
      · replace hsh := ite_n hc hsh
        refine v_iconst C dL_isLamp_217 (v := 0) (by decide) ?_
        exact v_wk (hj218 _ _ _ _ _ _ _ _ hsh) (wk_of (And.intro rfl (And.intro rfl (And.intro rfl (And.intro rfl (And.intro rfl (And.intro rfl (And.intro rfl (And.intro rfl trivial)))))))))
      · replace hsh := ite_p hc hsh
        refine v_iconst C dL_isLamp_213 (v := 1) (by decide) ?_
        refine v_goto C 218 dL_isLamp_214 (by decide) ?_
        exact v_wk (hj218 _ _ _ _ _ _ _ _ hsh) (wk_of (And.intro rfl (And.intro rfl (And.intro rfl (And.intro rfl (And.intro rfl (And.intro rfl (And.intro rfl (And.intro rfl trivial)))))))))
    refine v_iload C dL_isLamp_174 rfl ?_
    refine v_bipush C dL_isLamp_176 (v := 16) (by decide) ?_
    refine v_ic_ge C 379 dL_isLamp_178 (by decide) (fun hc => ?_) (fun hc => ?_)
    · replace hsh := ite_p hc hsh
      exact v_wk (hk379 _ hsh) (wk_of (And.intro rfl trivial))
    · replace hsh := ite_n hc hsh
      refine v_iload C dL_isLamp_181 rfl ?_
      refine v_if_eq C 379 dL_isLamp_183 (by decide) (fun hc => ?_) (fun hc => ?_)
      · replace hsh := ite_p hc hsh
        exact v_wk (hk379 _ hsh) (wk_of (And.intro rfl trivial))
      · replace hsh := ite_n hc hsh
        refine v_iloadn C dL_isLamp_186 rfl ?_
        refine v_iload C dL_isLamp_187 rfl ?_
        refine v_ishr C dL_isLamp_189 ?_
        refine v_iconst C dL_isLamp_190 (v := 1) (by decide) ?_
        refine v_iand C dL_isLamp_191 ?_
        refine v_iconst C dL_isLamp_192 (v := 1) (by decide) ?_
        refine v_ic_ne C 200 dL_isLamp_193 (by decide) (fun hc => ?_) (fun hc => ?_)
        · replace hsh := ite_n hc hsh
          refine v_iconst C dL_isLamp_200 (v := 0) (by decide) ?_
          exact v_wk (hj201 _ _ _ _ _ _ _ hsh) (wk_of (And.intro rfl (And.intro rfl (And.intro rfl (And.intro rfl (And.intro rfl (And.intro rfl (And.intro rfl trivial))))))))
        · replace hsh := ite_p hc hsh
          refine v_iconst C dL_isLamp_196 (v := 1) (by decide) ?_
          refine v_goto C 201 dL_isLamp_197 (by decide) ?_
          exact v_wk (hj201 _ _ _ _ _ _ _ hsh) (wk_of (And.intro rfl (And.intro rfl (And.intro rfl (And.intro rfl (And.intro rfl (And.intro rfl (And.intro rfl trivial))))))))
set_option maxRecDepth 100000 in
set_option maxHeartbeats 4000000 in
theorem c_L_isLamp (l : Launch) (D : va_G) (t : gT) (ad : Nat → Nat) (hI : gI ad) {l1 : Int32} {G : gG} {r0 : Int32} (hsh : sh_L_isLamp l1 G = some r0) : Mi l D t ad yL_isLamp cL_isLamp 10 (some .boolean) (rM 6 133) [.ref (ad 70), .int l1] G r0 G := by
  refine m_go hI RL rfl (by decide +kernel) ⟨rfl, rfl⟩ (Nat.le_of_ble_eq_true rfl) rfl [some (.ref (ad 70)), some (.int l1), none, none, none, none, none, none, none, none] rfl (fun p e s m args below meth c C => ?_)
  unfold sh_L_isLamp at hsh
  have hj159 : ∀ (l1 : Int32) (l2 : Int32) (l3 : Int32) (l4 : Int32) (l5 : Int32) (x0 : Int32) , sh_L_isLamp_j159 G l1 l2 l3 l4 l5 x0 = some r0 → V p l e (rM 6 133) s m args below meth c (isW ad) D t ad 0 0 10 (Qi below D t ad args s r0 G) G 159 [some (.ref (ad 70)), some (.int l1), some (.int l2), some (.int l3), some (.int l4), some (.int l5), none, none, none, none] [.int x0] := by
    intro l1 l2 l3 l4 l5 x0 hsh
    unfold sh_L_isLamp_j159 at hsh
    refine v_iload C dL_isLamp_159 rfl ?_
    refine v_ic_ne C 168 dL_isLamp_161 (by decide) (fun hc => ?_) (fun hc => ?_)
    · replace hsh := ite_n hc hsh
      refine v_iconst C dL_isLamp_168 (v := 0) (by decide) ?_
      refine v_istore C dL_isLamp_169 (by decide) ?_
      refine v_iconst C dL_isLamp_171 (v := 0) (by decide) ?_
      refine v_istore C dL_isLamp_172 (by decide) ?_
      refine v_wk (lp_L_isLamp_174 C hI (fun l6 hsh => ?_) FU _ _ _ _ _ _ _ hsh) (wk_of (And.intro rfl (And.intro rfl (And.intro rfl (And.intro rfl (And.intro rfl (And.intro rfl (And.intro rfl (And.intro rfl trivial)))))))))
      refine v_iload C dL_isLamp_379 rfl ?_
      obtain ⟨hnb, hsh⟩ := g_if hsh
      obtain rfl := so_1 hsh
      exact v_zret C (nbB_n hnb) dL_isLamp_381
    · replace hsh := ite_p hc hsh
      refine v_iconst C dL_isLamp_164 (v := 1) (by decide) ?_
      refine v_goto C 169 dL_isLamp_165 (by decide) ?_
      refine v_istore C dL_isLamp_169 (by decide) ?_
      refine v_iconst C dL_isLamp_171 (v := 0) (by decide) ?_
      refine v_istore C dL_isLamp_172 (by decide) ?_
      refine v_wk (lp_L_isLamp_174 C hI (fun l6 hsh => ?_) FU _ _ _ _ _ _ _ hsh) (wk_of (And.intro rfl (And.intro rfl (And.intro rfl (And.intro rfl (And.intro rfl (And.intro rfl (And.intro rfl (And.intro rfl trivial)))))))))
      refine v_iload C dL_isLamp_379 rfl ?_
      obtain ⟨hnb, hsh⟩ := g_if hsh
      obtain rfl := so_1 hsh
      exact v_zret C (nbB_n hnb) dL_isLamp_381
  have hj144 : ∀ (l1 : Int32) (l2 : Int32) (l3 : Int32) (l4 : Int32) (l5 : Int32) (x0 : Int32) , sh_L_isLamp_j144 G l1 l2 l3 l4 l5 x0 = some r0 → V p l e (rM 6 133) s m args below meth c (isW ad) D t ad 0 0 10 (Qi below D t ad args s r0 G) G 144 [some (.ref (ad 70)), some (.int l1), some (.int l2), some (.int l3), some (.int l4), some (.int l5), none, none, none, none] [.int x0] := by
    intro l1 l2 l3 l4 l5 x0 hsh
    unfold sh_L_isLamp_j144 at hsh
    refine v_iload C dL_isLamp_144 rfl ?_
    refine v_ic_ne C 168 dL_isLamp_146 (by decide) (fun hc => ?_) (fun hc => ?_)
    · replace hsh := ite_n hc hsh
      refine v_iconst C dL_isLamp_168 (v := 0) (by decide) ?_
      refine v_istore C dL_isLamp_169 (by decide) ?_
      refine v_iconst C dL_isLamp_171 (v := 0) (by decide) ?_
      refine v_istore C dL_isLamp_172 (by decide) ?_
      refine v_wk (lp_L_isLamp_174 C hI (fun l6 hsh => ?_) FU _ _ _ _ _ _ _ hsh) (wk_of (And.intro rfl (And.intro rfl (And.intro rfl (And.intro rfl (And.intro rfl (And.intro rfl (And.intro rfl (And.intro rfl trivial)))))))))
      refine v_iload C dL_isLamp_379 rfl ?_
      obtain ⟨hnb, hsh⟩ := g_if hsh
      obtain rfl := so_1 hsh
      exact v_zret C (nbB_n hnb) dL_isLamp_381
    · replace hsh := ite_p hc hsh
      refine v_iload C dL_isLamp_149 rfl ?_
      refine v_if_eq C 158 dL_isLamp_151 (by decide) (fun hc => ?_) (fun hc => ?_)
      · replace hsh := ite_p hc hsh
        refine v_iconst C dL_isLamp_158 (v := 0) (by decide) ?_
        exact v_wk (hj159 _ _ _ _ _ _ hsh) (wk_of (And.intro rfl (And.intro rfl (And.intro rfl (And.intro rfl (And.intro rfl (And.intro rfl trivial)))))))
      · replace hsh := ite_n hc hsh
        refine v_iconst C dL_isLamp_154 (v := 1) (by decide) ?_
        refine v_goto C 159 dL_isLamp_155 (by decide) ?_
        exact v_wk (hj159 _ _ _ _ _ _ hsh) (wk_of (And.intro rfl (And.intro rfl (And.intro rfl (And.intro rfl (And.intro rfl (And.intro rfl trivial)))))))
  have hj124 : ∀ (l1 : Int32) (l2 : Int32) (l3 : Int32) (l4 : Int32) (l5 : Int32) (x0 : Int32) (x1 : Int32) , sh_L_isLamp_j124 G l1 l2 l3 l4 l5 x0 x1 = some r0 → V p l e (rM 6 133) s m args below meth c (isW ad) D t ad 0 0 10 (Qi below D t ad args s r0 G) G 124 [some (.ref (ad 70)), some (.int l1), some (.int l2), some (.int l3), some (.int l4), some (.int l5), none, none, none, none] [.int x1, .int x0] := by
    intro l1 l2 l3 l4 l5 x0 x1 hsh
    unfold sh_L_isLamp_j124 at hsh
    refine v_ic_ne C 168 dL_isLamp_124 (by decide) (fun hc => ?_) (fun hc => ?_)
    · replace hsh := ite_n hc hsh
      refine v_iconst C dL_isLamp_168 (v := 0) (by decide) ?_
      refine v_istore C dL_isLamp_169 (by decide) ?_
      refine v_iconst C dL_isLamp_171 (v := 0) (by decide) ?_
      refine v_istore C dL_isLamp_172 (by decide) ?_
      refine v_wk (lp_L_isLamp_174 C hI (fun l6 hsh => ?_) FU _ _ _ _ _ _ _ hsh) (wk_of (And.intro rfl (And.intro rfl (And.intro rfl (And.intro rfl (And.intro rfl (And.intro rfl (And.intro rfl (And.intro rfl trivial)))))))))
      refine v_iload C dL_isLamp_379 rfl ?_
      obtain ⟨hnb, hsh⟩ := g_if hsh
      obtain rfl := so_1 hsh
      exact v_zret C (nbB_n hnb) dL_isLamp_381
    · replace hsh := ite_p hc hsh
      refine v_iloadn C dL_isLamp_127 rfl ?_
      refine v_iloadn C dL_isLamp_128 rfl ?_
      refine v_ishr C dL_isLamp_129 ?_
      refine v_iconst C dL_isLamp_130 (v := 1) (by decide) ?_
      refine v_iand C dL_isLamp_131 ?_
      refine v_if_ne C 168 dL_isLamp_132 (by decide) (fun hc => ?_) (fun hc => ?_)
      · replace hsh := ite_n hc hsh
        refine v_iconst C dL_isLamp_168 (v := 0) (by decide) ?_
        refine v_istore C dL_isLamp_169 (by decide) ?_
        refine v_iconst C dL_isLamp_171 (v := 0) (by decide) ?_
        refine v_istore C dL_isLamp_172 (by decide) ?_
        refine v_wk (lp_L_isLamp_174 C hI (fun l6 hsh => ?_) FU _ _ _ _ _ _ _ hsh) (wk_of (And.intro rfl (And.intro rfl (And.intro rfl (And.intro rfl (And.intro rfl (And.intro rfl (And.intro rfl (And.intro rfl trivial)))))))))
        refine v_iload C dL_isLamp_379 rfl ?_
        obtain ⟨hnb, hsh⟩ := g_if hsh
        obtain rfl := so_1 hsh
        exact v_zret C (nbB_n hnb) dL_isLamp_381
      · replace hsh := ite_p hc hsh
        refine v_iloadn C dL_isLamp_135 rfl ?_
        refine v_if_eq C 143 dL_isLamp_136 (by decide) (fun hc => ?_) (fun hc => ?_)
        · replace hsh := ite_p hc hsh
          refine v_iconst C dL_isLamp_143 (v := 0) (by decide) ?_
          exact v_wk (hj144 _ _ _ _ _ _ hsh) (wk_of (And.intro rfl (And.intro rfl (And.intro rfl (And.intro rfl (And.intro rfl (And.intro rfl trivial)))))))
        · replace hsh := ite_n hc hsh
          refine v_iconst C dL_isLamp_139 (v := 1) (by decide) ?_
          refine v_goto C 144 dL_isLamp_140 (by decide) ?_
          exact v_wk (hj144 _ _ _ _ _ _ hsh) (wk_of (And.intro rfl (And.intro rfl (And.intro rfl (And.intro rfl (And.intro rfl (And.intro rfl trivial)))))))
  have hj110 : ∀ (l1 : Int32) (l2 : Int32) (l3 : Int32) (l4 : Int32) (l5 : Int32) (x0 : Int32) , sh_L_isLamp_j110 G l1 l2 l3 l4 l5 x0 = some r0 → V p l e (rM 6 133) s m args below meth c (isW ad) D t ad 0 0 10 (Qi below D t ad args s r0 G) G 110 [some (.ref (ad 70)), some (.int l1), some (.int l2), some (.int l3), some (.int l4), some (.int l5), none, none, none, none] [.int x0] := by
    intro l1 l2 l3 l4 l5 x0 hsh
    unfold sh_L_isLamp_j110 at hsh
    refine v_aloadn C dL_isLamp_110 rfl ?_
    refine v_iloadn C dL_isLamp_111 rfl ?_
    refine v_iconst C dL_isLamp_112 (v := 5) (by decide) ?_
    obtain ⟨r42, e41, hsh⟩ := obp_e hsh
    refine v_callI (nP := 2) (k := 70) C (by decide) rfl rfl (c_X3_lamp l D t ad hI  e41) k251 k248 k249 k250 k1 yo_X3_lamp ⟨Nat.le_of_ble_eq_true rfl, Nat.le_of_ble_eq_true rfl, rfl, rfl, Nat.zero_le _, Nat.zero_le _⟩ rfl rfl (Nat.le_of_ble_eq_true rfl) dL_isLamp_113 ?_
    refine v_if_ne C 123 dL_isLamp_116 (by decide) (fun hc => ?_) (fun hc => ?_)
    · replace hsh := ite_n hc hsh
      refine v_iconst C dL_isLamp_123 (v := 0) (by decide) ?_
      exact v_wk (hj124 _ _ _ _ _ _ _ hsh) (wk_of (And.intro rfl (And.intro rfl (And.intro rfl (And.intro rfl (And.intro rfl (And.intro rfl trivial)))))))
    · replace hsh := ite_p hc hsh
      refine v_iconst C dL_isLamp_119 (v := 1) (by decide) ?_
      refine v_goto C 124 dL_isLamp_120 (by decide) ?_
      exact v_wk (hj124 _ _ _ _ _ _ _ hsh) (wk_of (And.intro rfl (And.intro rfl (And.intro rfl (And.intro rfl (And.intro rfl (And.intro rfl trivial)))))))
  refine v_aloadn C dL_isLamp_0 rfl ?_
  refine v_iloadn C dL_isLamp_1 rfl ?_
  refine v_bipush C dL_isLamp_2 (v := 6) (by decide) ?_
  obtain ⟨r2, e1, hsh⟩ := obp_e hsh
  refine v_callI (nP := 2) (k := 70) C (by decide) rfl rfl (c_X3_lamp l D t ad hI  e1) k251 k248 k249 k250 k1 yo_X3_lamp ⟨Nat.le_of_ble_eq_true rfl, Nat.le_of_ble_eq_true rfl, rfl, rfl, Nat.zero_le _, Nat.zero_le _⟩ rfl rfl (Nat.le_of_ble_eq_true rfl) dL_isLamp_4 ?_
  refine v_istoren C dL_isLamp_7 (by decide) ?_
  refine v_aloadn C dL_isLamp_8 rfl ?_
  refine v_iloadn C dL_isLamp_9 rfl ?_
  refine v_bipush C dL_isLamp_10 (v := 7) (by decide) ?_
  obtain ⟨r4, e3, hsh⟩ := obp_e hsh
  refine v_callI (nP := 2) (k := 70) C (by decide) rfl rfl (c_X3_lamp l D t ad hI  e3) k251 k248 k249 k250 k1 yo_X3_lamp ⟨Nat.le_of_ble_eq_true rfl, Nat.le_of_ble_eq_true rfl, rfl, rfl, Nat.zero_le _, Nat.zero_le _⟩ rfl rfl (Nat.le_of_ble_eq_true rfl) dL_isLamp_12 ?_
  refine v_istoren C dL_isLamp_15 (by decide) ?_
  refine v_aloadn C dL_isLamp_16 rfl ?_
  refine v_iloadn C dL_isLamp_17 rfl ?_
  refine v_bipush C dL_isLamp_18 (v := 8) (by decide) ?_
  obtain ⟨r6, e5, hsh⟩ := obp_e hsh
  refine v_callI (nP := 2) (k := 70) C (by decide) rfl rfl (c_X3_lamp l D t ad hI  e5) k251 k248 k249 k250 k1 yo_X3_lamp ⟨Nat.le_of_ble_eq_true rfl, Nat.le_of_ble_eq_true rfl, rfl, rfl, Nat.zero_le _, Nat.zero_le _⟩ rfl rfl (Nat.le_of_ble_eq_true rfl) dL_isLamp_20 ?_
  refine v_istore C dL_isLamp_23 (by decide) ?_
  refine v_aloadn C dL_isLamp_25 rfl ?_
  refine v_iloadn C dL_isLamp_26 rfl ?_
  obtain ⟨r8, e7, hsh⟩ := obp_e hsh
  refine v_callS (nP := 2) C (c_L_isOn l D t ad hI  e7) k274 k272 k273 k0 yo_L_isOn ⟨Nat.le_of_ble_eq_true rfl, Nat.le_of_ble_eq_true rfl, rfl, rfl, Nat.zero_le _, Nat.zero_le _⟩ rfl rfl (Nat.le_of_ble_eq_true rfl) dL_isLamp_27 ?_
  refine v_istore C dL_isLamp_30 (by decide) ?_
  refine v_aloadn C dL_isLamp_32 rfl ?_
  refine v_iloadn C dL_isLamp_33 rfl ?_
  refine v_iconst C dL_isLamp_34 (v := 0) (by decide) ?_
  obtain ⟨r10, e9, hsh⟩ := obp_e hsh
  refine v_callI (nP := 2) (k := 70) C (by decide) rfl rfl (c_X3_lamp l D t ad hI  e9) k251 k248 k249 k250 k1 yo_X3_lamp ⟨Nat.le_of_ble_eq_true rfl, Nat.le_of_ble_eq_true rfl, rfl, rfl, Nat.zero_le _, Nat.zero_le _⟩ rfl rfl (Nat.le_of_ble_eq_true rfl) dL_isLamp_35 ?_
  refine v_bipush C dL_isLamp_38 (v := 100) (by decide) ?_
  refine v_aloadn C dL_isLamp_40 rfl ?_
  refine v_bipush C dL_isLamp_41 (v := 9) (by decide) ?_
  obtain ⟨r12, e11, hsh⟩ := obp_e hsh
  refine v_callI (nP := 1) (k := 70) C (by decide) rfl rfl (c_X3_count l D t ad hI  e11) k283 k280 k281 k282 k1 yo_X3_count ⟨Nat.le_of_ble_eq_true rfl, Nat.le_of_ble_eq_true rfl, rfl, rfl, Nat.zero_le _, Nat.zero_le _⟩ rfl rfl (Nat.le_of_ble_eq_true rfl) dL_isLamp_43 ?_
  refine v_imul C dL_isLamp_46 ?_
  refine v_ic_ge C 168 dL_isLamp_47 (by decide) (fun hc => ?_) (fun hc => ?_)
  · replace hsh := ite_p hc hsh
    refine v_iconst C dL_isLamp_168 (v := 0) (by decide) ?_
    refine v_istore C dL_isLamp_169 (by decide) ?_
    refine v_iconst C dL_isLamp_171 (v := 0) (by decide) ?_
    refine v_istore C dL_isLamp_172 (by decide) ?_
    refine v_wk (lp_L_isLamp_174 C hI (fun l6 hsh => ?_) FU _ _ _ _ _ _ _ hsh) (wk_of (And.intro rfl (And.intro rfl (And.intro rfl (And.intro rfl (And.intro rfl (And.intro rfl (And.intro rfl (And.intro rfl trivial)))))))))
    refine v_iload C dL_isLamp_379 rfl ?_
    obtain ⟨hnb, hsh⟩ := g_if hsh
    obtain rfl := so_1 hsh
    exact v_zret C (nbB_n hnb) dL_isLamp_381
  · replace hsh := ite_n hc hsh
    refine v_aloadn C dL_isLamp_50 rfl ?_
    refine v_iloadn C dL_isLamp_51 rfl ?_
    refine v_iconst C dL_isLamp_52 (v := 1) (by decide) ?_
    obtain ⟨r30, e29, hsh⟩ := obp_e hsh
    refine v_callI (nP := 2) (k := 70) C (by decide) rfl rfl (c_X3_lamp l D t ad hI  e29) k251 k248 k249 k250 k1 yo_X3_lamp ⟨Nat.le_of_ble_eq_true rfl, Nat.le_of_ble_eq_true rfl, rfl, rfl, Nat.zero_le _, Nat.zero_le _⟩ rfl rfl (Nat.le_of_ble_eq_true rfl) dL_isLamp_53 ?_
    refine v_bipush C dL_isLamp_56 (v := 50) (by decide) ?_
    refine v_ic_lt C 168 dL_isLamp_58 (by decide) (fun hc => ?_) (fun hc => ?_)
    · replace hsh := ite_p hc hsh
      refine v_iconst C dL_isLamp_168 (v := 0) (by decide) ?_
      refine v_istore C dL_isLamp_169 (by decide) ?_
      refine v_iconst C dL_isLamp_171 (v := 0) (by decide) ?_
      refine v_istore C dL_isLamp_172 (by decide) ?_
      refine v_wk (lp_L_isLamp_174 C hI (fun l6 hsh => ?_) FU _ _ _ _ _ _ _ hsh) (wk_of (And.intro rfl (And.intro rfl (And.intro rfl (And.intro rfl (And.intro rfl (And.intro rfl (And.intro rfl (And.intro rfl trivial)))))))))
      refine v_iload C dL_isLamp_379 rfl ?_
      obtain ⟨hnb, hsh⟩ := g_if hsh
      obtain rfl := so_1 hsh
      exact v_zret C (nbB_n hnb) dL_isLamp_381
    · replace hsh := ite_n hc hsh
      refine v_aloadn C dL_isLamp_61 rfl ?_
      refine v_iloadn C dL_isLamp_62 rfl ?_
      refine v_iconst C dL_isLamp_63 (v := 1) (by decide) ?_
      obtain ⟨r32, e31, hsh⟩ := obp_e hsh
      refine v_callI (nP := 2) (k := 70) C (by decide) rfl rfl (c_X3_lamp l D t ad hI  e31) k251 k248 k249 k250 k1 yo_X3_lamp ⟨Nat.le_of_ble_eq_true rfl, Nat.le_of_ble_eq_true rfl, rfl, rfl, Nat.zero_le _, Nat.zero_le _⟩ rfl rfl (Nat.le_of_ble_eq_true rfl) dL_isLamp_64 ?_
      refine v_sipush C dL_isLamp_67 (v := 150) (by decide) ?_
      refine v_ic_gt C 168 dL_isLamp_70 (by decide) (fun hc => ?_) (fun hc => ?_)
      · replace hsh := ite_p hc hsh
        refine v_iconst C dL_isLamp_168 (v := 0) (by decide) ?_
        refine v_istore C dL_isLamp_169 (by decide) ?_
        refine v_iconst C dL_isLamp_171 (v := 0) (by decide) ?_
        refine v_istore C dL_isLamp_172 (by decide) ?_
        refine v_wk (lp_L_isLamp_174 C hI (fun l6 hsh => ?_) FU _ _ _ _ _ _ _ hsh) (wk_of (And.intro rfl (And.intro rfl (And.intro rfl (And.intro rfl (And.intro rfl (And.intro rfl (And.intro rfl (And.intro rfl trivial)))))))))
        refine v_iload C dL_isLamp_379 rfl ?_
        obtain ⟨hnb, hsh⟩ := g_if hsh
        obtain rfl := so_1 hsh
        exact v_zret C (nbB_n hnb) dL_isLamp_381
      · replace hsh := ite_n hc hsh
        refine v_aloadn C dL_isLamp_73 rfl ?_
        refine v_iloadn C dL_isLamp_74 rfl ?_
        refine v_iconst C dL_isLamp_75 (v := 3) (by decide) ?_
        obtain ⟨r34, e33, hsh⟩ := obp_e hsh
        refine v_callI (nP := 2) (k := 70) C (by decide) rfl rfl (c_X3_lamp l D t ad hI  e33) k251 k248 k249 k250 k1 yo_X3_lamp ⟨Nat.le_of_ble_eq_true rfl, Nat.le_of_ble_eq_true rfl, rfl, rfl, Nat.zero_le _, Nat.zero_le _⟩ rfl rfl (Nat.le_of_ble_eq_true rfl) dL_isLamp_76 ?_
        refine v_if_lt C 168 dL_isLamp_79 (by decide) (fun hc => ?_) (fun hc => ?_)
        · replace hsh := ite_p hc hsh
          refine v_iconst C dL_isLamp_168 (v := 0) (by decide) ?_
          refine v_istore C dL_isLamp_169 (by decide) ?_
          refine v_iconst C dL_isLamp_171 (v := 0) (by decide) ?_
          refine v_istore C dL_isLamp_172 (by decide) ?_
          refine v_wk (lp_L_isLamp_174 C hI (fun l6 hsh => ?_) FU _ _ _ _ _ _ _ hsh) (wk_of (And.intro rfl (And.intro rfl (And.intro rfl (And.intro rfl (And.intro rfl (And.intro rfl (And.intro rfl (And.intro rfl trivial)))))))))
          refine v_iload C dL_isLamp_379 rfl ?_
          obtain ⟨hnb, hsh⟩ := g_if hsh
          obtain rfl := so_1 hsh
          exact v_zret C (nbB_n hnb) dL_isLamp_381
        · replace hsh := ite_n hc hsh
          refine v_aloadn C dL_isLamp_82 rfl ?_
          refine v_iloadn C dL_isLamp_83 rfl ?_
          refine v_iconst C dL_isLamp_84 (v := 5) (by decide) ?_
          obtain ⟨r36, e35, hsh⟩ := obp_e hsh
          refine v_callI (nP := 2) (k := 70) C (by decide) rfl rfl (c_X3_lamp l D t ad hI  e35) k251 k248 k249 k250 k1 yo_X3_lamp ⟨Nat.le_of_ble_eq_true rfl, Nat.le_of_ble_eq_true rfl, rfl, rfl, Nat.zero_le _, Nat.zero_le _⟩ rfl rfl (Nat.le_of_ble_eq_true rfl) dL_isLamp_85 ?_
          refine v_aloadn C dL_isLamp_88 rfl ?_
          refine v_iconst C dL_isLamp_89 (v := 0) (by decide) ?_
          obtain ⟨r38, e37, hsh⟩ := obp_e hsh
          refine v_callI (nP := 1) (k := 70) C (by decide) rfl rfl (c_X3_count l D t ad hI  e37) k283 k280 k281 k282 k1 yo_X3_count ⟨Nat.le_of_ble_eq_true rfl, Nat.le_of_ble_eq_true rfl, rfl, rfl, Nat.zero_le _, Nat.zero_le _⟩ rfl rfl (Nat.le_of_ble_eq_true rfl) dL_isLamp_90 ?_
          refine v_ic_gt C 168 dL_isLamp_93 (by decide) (fun hc => ?_) (fun hc => ?_)
          · replace hsh := ite_p hc hsh
            refine v_iconst C dL_isLamp_168 (v := 0) (by decide) ?_
            refine v_istore C dL_isLamp_169 (by decide) ?_
            refine v_iconst C dL_isLamp_171 (v := 0) (by decide) ?_
            refine v_istore C dL_isLamp_172 (by decide) ?_
            refine v_wk (lp_L_isLamp_174 C hI (fun l6 hsh => ?_) FU _ _ _ _ _ _ _ hsh) (wk_of (And.intro rfl (And.intro rfl (And.intro rfl (And.intro rfl (And.intro rfl (And.intro rfl (And.intro rfl (And.intro rfl trivial)))))))))
            refine v_iload C dL_isLamp_379 rfl ?_
            obtain ⟨hnb, hsh⟩ := g_if hsh
            obtain rfl := so_1 hsh
            exact v_zret C (nbB_n hnb) dL_isLamp_381
          · replace hsh := ite_n hc hsh
            refine v_aloadn C dL_isLamp_96 rfl ?_
            refine v_iloadn C dL_isLamp_97 rfl ?_
            refine v_iconst C dL_isLamp_98 (v := 4) (by decide) ?_
            obtain ⟨r40, e39, hsh⟩ := obp_e hsh
            refine v_callI (nP := 2) (k := 70) C (by decide) rfl rfl (c_X3_lamp l D t ad hI  e39) k251 k248 k249 k250 k1 yo_X3_lamp ⟨Nat.le_of_ble_eq_true rfl, Nat.le_of_ble_eq_true rfl, rfl, rfl, Nat.zero_le _, Nat.zero_le _⟩ rfl rfl (Nat.le_of_ble_eq_true rfl) dL_isLamp_99 ?_
            refine v_if_ne C 109 dL_isLamp_102 (by decide) (fun hc => ?_) (fun hc => ?_)
            · replace hsh := ite_n hc hsh
              refine v_iconst C dL_isLamp_109 (v := 0) (by decide) ?_
              exact v_wk (hj110 _ _ _ _ _ _ hsh) (wk_of (And.intro rfl (And.intro rfl (And.intro rfl (And.intro rfl (And.intro rfl (And.intro rfl trivial)))))))
            · replace hsh := ite_p hc hsh
              refine v_iconst C dL_isLamp_105 (v := 1) (by decide) ?_
              refine v_goto C 110 dL_isLamp_106 (by decide) ?_
              exact v_wk (hj110 _ _ _ _ _ _ hsh) (wk_of (And.intro rfl (And.intro rfl (And.intro rfl (And.intro rfl (And.intro rfl (And.intro rfl trivial)))))))
theorem yo_L_isLamp : yOk yL_isLamp 2 := ⟨by decide, by decide, by decide +kernel⟩

def sh_L_holds_j168 (kt208 : Int32 → Int32 → Int32 → Int32 → Int32 → Int32 → Int32 → gG → Option (Int32 × gG)) (self83 : Int32 → Int32 → Int32 → Int32 → Int32 → Int32 → Int32 → Int32 → gG → Option (Int32 × gG)) (l1 : Int32) (l2 : Int32) (l3 : Int32) (l4 : Int32) (l5 : Int32) (l6 : Int32) (l7 : Int32) (l8 : Int32) (l9 : Int32) (G : gG) : Option (Int32 × gG) := (obp (sh_L_isOn l7 G) fun r18 => (if r18 = (0 : Int32) then self83 l1 l2 l3 l4 l5 l6 l7 (l8 + 1) G else (obp (sh_L_isOn l8 G) fun r20 => (if r20 = (0 : Int32) then self83 l1 l2 l3 l4 l5 l6 l7 (l8 + 1) G else (if l9 ≤ l6 then self83 l1 l2 l3 l4 l5 l6 l7 (l8 + 1) G else self83 l1 l2 l3 l4 l5 l9 l7 (l8 + 1) G)))))
def sh_L_holds_83  (kt208 : Int32 → Int32 → Int32 → Int32 → Int32 → Int32 → Int32 → gG → Option (Int32 × gG)) : Nat → Int32 → Int32 → Int32 → Int32 → Int32 → Int32 → Int32 → Int32 → gG → Option (Int32 × gG)
  | 0, _, _, _, _, _, _, _, _, _ => none
  | n + 1, l1, l2, l3, l4, l5, l6, l7, l8, G => (if (16 : Int32) ≤ l8 then kt208 l1 l2 l3 l4 l5 l6 l7 G else (obp (sh_X3_lamp l7 (6 : Int32) G) fun r10 => (bni (l3 + ((r10 >>> (l8 &&& 31)) &&& (1 : Int32))) fun z11 => (obp (sh_X3_apart l7 l8 G) fun r14 => (obp (sh_L_isThere l8 G) fun r16 => (if r16 = (0 : Int32) then (if r14 = (-1 : Int32) then (sh_L_holds_j168 kt208 (sh_L_holds_83 kt208 n) l1 l2 z11 l4 l5 l6 l7 l8 r14 G) else some ((0 : Int32), G)) else (obp (sh_X3_apart l8 l7 G) fun r22 => (if r14 = r22 then (if r14 < (0 : Int32) then some ((0 : Int32), G) else (obp (sh_X3_count (9 : Int32) G) fun r24 => (if r14 ≤ ((50 : Int32) * r24) then (sh_L_holds_j168 kt208 (sh_L_holds_83 kt208 n) l1 l2 z11 l4 l5 l6 l7 l8 r14 G) else some ((0 : Int32), G)))) else some ((0 : Int32), G)))))))))
def sh_L_holds_j53 (kt225 : Int32 → Int32 → Int32 → Int32 → Int32 → Int32 → gG → Option (Int32 × gG)) (self19 : Int32 → Int32 → Int32 → Int32 → Int32 → Int32 → Int32 → gG → Option (Int32 × gG)) (l1 : Int32) (l3 : Int32) (l4 : Int32) (l5 : Int32) (l6 : Int32) (l7 : Int32) (x0 : Int32) (x1 : Int32) (G : gG) : Option (Int32 × gG) := (obp (sh_X3_lamp l7 (4 : Int32) G) fun r6 => (obp (sh_X3_lamp l7 (9 : Int32) G) fun r8 => (sh_L_holds_83 (fun l1 l2 l3 l4 l5 l6 l7 G => (obp (sh_L_isLamp l7 G) fun r26 => (if r26 = (0 : Int32) then some ((0 : Int32), G) else self19 l1 l2 l3 l4 l5 l6 (l7 + 1) G))) FU l1 (x0 + x1) l3 (l4 + r6) (l5 + r8) l6 l7 (0 : Int32) G)))
def sh_L_holds_19  (kt225 : Int32 → Int32 → Int32 → Int32 → Int32 → Int32 → gG → Option (Int32 × gG)) : Nat → Int32 → Int32 → Int32 → Int32 → Int32 → Int32 → Int32 → gG → Option (Int32 × gG)
  | 0, _, _, _, _, _, _, _, _ => none
  | n + 1, l1, l2, l3, l4, l5, l6, l7, G => (if (16 : Int32) ≤ l7 then kt225 l1 l2 l3 l4 l5 l6 G else (obp (sh_L_isThere l7 G) fun r2 => (if r2 = (0 : Int32) then sh_L_holds_19 kt225 n l1 l2 l3 l4 l5 l6 (l7 + 1) G else (obp (sh_L_isOn l7 G) fun r4 => (if r4 = (0 : Int32) then (sh_L_holds_j53 kt225 (sh_L_holds_19 kt225 n) (l1 + 1) l3 l4 l5 l6 l7 l2 (0 : Int32) G) else (sh_L_holds_j53 kt225 (sh_L_holds_19 kt225 n) (l1 + 1) l3 l4 l5 l6 l7 l2 (1 : Int32) G))))))
def sh_L_holds_j486 (l6 : Int32) (x0 : Int32) (x1 : Int32) (G : gG) : Option (Int32 × gG) := (if x0 = x1 then (if l6 = (0 : Int32) then (obp (sh_X3_reason G) fun r37 => (if r37 = (0 : Int32) then some ((1 : Int32), G) else some ((0 : Int32), G))) else some ((1 : Int32), G)) else some ((0 : Int32), G))
def sh_L_holds_j485 (l6 : Int32) (x0 : Int32) (G : gG) : Option (Int32 × gG) := (sh_L_holds_j486 l6 x0 (0 : Int32) G)
def sh_L_holds_j467 (l6 : Int32) (x0 : Int32) (G : gG) : Option (Int32 × gG) := (obp (sh_X3_count (4 : Int32) G) fun r35 => (if r35 ≤ (1 : Int32) then (sh_L_holds_j485 l6 x0 G) else (if l6 ≤ (0 : Int32) then (sh_L_holds_j485 l6 x0 G) else (sh_L_holds_j486 l6 x0 (1 : Int32) G))))
def sh_L_holds_j454 (l6 : Int32) (G : gG) : Option (Int32 × gG) := (obp (sh_X3_reason G) fun r33 => (if r33 = (2 : Int32) then (sh_L_holds_j467 l6 (1 : Int32) G) else (sh_L_holds_j467 l6 (0 : Int32) G)))
def sh_L_holds_j422 (l2 : Int32) (l6 : Int32) (l8 : Int32) (x0 : Int32) (x1 : Int32) (G : gG) : Option (Int32 × gG) := (if x0 = x1 then (if (0 : Int32) < l2 then (sh_L_holds_j454 l6 G) else (if l8 = (-5 : Int32) then (obi (sh_X3_next (0 : Int32) G) fun r39 G40 => (if r39 = (-5 : Int32) then (obp (sh_X3_reason G40) fun r42 => (if r42 = (1 : Int32) then (sh_L_holds_j454 l6 G40) else some ((0 : Int32), G40))) else some ((0 : Int32), G40))) else some ((0 : Int32), G))) else some ((0 : Int32), G))
def sh_L_holds_j412 (l2 : Int32) (l6 : Int32) (l8 : Int32) (x0 : Int32) (G : gG) : Option (Int32 × gG) := (if l6 = (0 : Int32) then (sh_L_holds_j422 l2 l6 l8 x0 (1 : Int32) G) else (sh_L_holds_j422 l2 l6 l8 x0 (0 : Int32) G))
def sh_L_holds_j389 (l2 : Int32) (l6 : Int32) (x0 : Int32) (G : gG) : Option (Int32 × gG) := (obi (sh_X3_togetherIn G) fun r30 G31 => (if x0 = (0 : Int32) then some ((0 : Int32), G31) else (if r30 = (0 : Int32) then (sh_L_holds_j412 l2 l6 r30 (1 : Int32) G31) else (sh_L_holds_j412 l2 l6 r30 (0 : Int32) G31))))
def sh_L_holds_j388 (l2 : Int32) (l6 : Int32) (G : gG) : Option (Int32 × gG) := (sh_L_holds_j389 l2 l6 (0 : Int32) G)
def sh_L_holds_j372 (l2 : Int32) (l6 : Int32) (x0 : Int32) (x1 : Int32) (G : gG) : Option (Int32 × gG) := (if x0 = x1 then (obp (sh_X3_spread G) fun r68 => (if r68 = l6 then (sh_L_holds_j389 l2 l6 (1 : Int32) G) else (sh_L_holds_j388 l2 l6 G))) else (sh_L_holds_j388 l2 l6 G))
def sh_L_holds_j358 (l2 : Int32) (l6 : Int32) (x0 : Int32) (G : gG) : Option (Int32 × gG) := (obp (sh_X3_count (7 : Int32) G) fun r66 => (if r66 = (0 : Int32) then (sh_L_holds_j372 l2 l6 x0 (1 : Int32) G) else (sh_L_holds_j372 l2 l6 x0 (0 : Int32) G)))
def sh_L_holds_j285 (l2 : Int32) (l4 : Int32) (l5 : Int32) (l6 : Int32) (x0 : Int32) (x1 : Int32) (G : gG) : Option (Int32 × gG) := (if x0 = x1 then (obp (sh_X3_count (5 : Int32) G) fun r52 => (if r52 < l4 then (sh_L_holds_j388 l2 l6 G) else (obp (sh_X3_count (6 : Int32) G) fun r54 => (if r54 < l5 then (sh_L_holds_j388 l2 l6 G) else (obp (sh_X3_count (7 : Int32) G) fun r56 => (obp (sh_X3_count (0 : Int32) G) fun r58 => (if r58 < r56 then (sh_L_holds_j388 l2 l6 G) else (obp (sh_X3_count (8 : Int32) G) fun r60 => (if (16 : Int32) < r60 then (sh_L_holds_j388 l2 l6 G) else (obp (sh_X3_count (8 : Int32) G) fun r62 => (if r62 = (1 : Int32) then (sh_L_holds_j388 l2 l6 G) else (obp (sh_X3_count (8 : Int32) G) fun r64 => (if r64 = (0 : Int32) then (sh_L_holds_j358 l2 l6 (1 : Int32) G) else (sh_L_holds_j358 l2 l6 (0 : Int32) G)))))))))))))) else (sh_L_holds_j388 l2 l6 G))
def sh_L_holds_j276 (l2 : Int32) (l4 : Int32) (l5 : Int32) (l6 : Int32) (x0 : Int32) (G : gG) : Option (Int32 × gG) := (if l2 ≤ (0 : Int32) then (sh_L_holds_j285 l2 l4 l5 l6 x0 (0 : Int32) G) else (sh_L_holds_j285 l2 l4 l5 l6 x0 (1 : Int32) G))
def sh_L_holds (G : gG) : Option (Int32 × gG) := (sh_L_holds_19 (fun l1 l2 l3 l4 l5 l6 G => (obp (sh_X3_count (1 : Int32) G) fun r28 => (if r28 = l1 then (obp (sh_X3_count (2 : Int32) G) fun r44 => (if r44 = l2 then (obp (sh_X3_count (3 : Int32) G) fun r46 => (if ((2 : Int32) * r46) = l3 then (obp (sh_X3_count (4 : Int32) G) fun r48 => (if l2 < r48 then (sh_L_holds_j388 l2 l6 G) else (obp (sh_X3_count (4 : Int32) G) fun r50 => (if r50 ≤ (0 : Int32) then (sh_L_holds_j276 l2 l4 l5 l6 (0 : Int32) G) else (sh_L_holds_j276 l2 l4 l5 l6 (1 : Int32) G))))) else (sh_L_holds_j388 l2 l6 G))) else (sh_L_holds_j388 l2 l6 G))) else (sh_L_holds_j388 l2 l6 G)))) FU (0 : Int32) (0 : Int32) (0 : Int32) (0 : Int32) (0 : Int32) (-5 : Int32) (0 : Int32) G)
set_option maxRecDepth 100000 in
set_option maxHeartbeats 4000000 in
theorem lp_L_holds_83 {p : Program} {l : Launch} {e : Env} {s : State} {m : MethodId} {args : Array Value} {below : List Frame} {meth : Method} {c : Code} {D : va_G} {t : gT} {ad : Nat → Nat} (C : gC p s m args meth c cL_holds RL 10 (some .boolean) (isW ad) D t ad) (hI : gI ad) {r0 : Int32} {G0 : gG} {kt208 : Int32 → Int32 → Int32 → Int32 → Int32 → Int32 → Int32 → gG → Option (Int32 × gG)} (hk208 : ∀ (l1 : Int32) (l2 : Int32) (l3 : Int32) (l4 : Int32) (l5 : Int32) (l6 : Int32) (l7 : Int32) (G : gG) , kt208 l1 l2 l3 l4 l5 l6 l7 G = some (r0, G0) → V p l e (rM 7 162) s m args below meth c (isW ad) D t ad 0 0 10 (Qi below D t ad args s r0 G0) G 208 [some (.ref (ad 70)), some (.int l1), some (.int l2), some (.int l3), some (.int l4), some (.int l5), some (.int l6), some (.int l7), none, none] []) : ∀ (n : Nat) (l1 : Int32) (l2 : Int32) (l3 : Int32) (l4 : Int32) (l5 : Int32) (l6 : Int32) (l7 : Int32) (l8 : Int32) (G : gG) , sh_L_holds_83 kt208 n l1 l2 l3 l4 l5 l6 l7 l8 G = some (r0, G0) → V p l e (rM 7 162) s m args below meth c (isW ad) D t ad 0 0 10 (Qi below D t ad args s r0 G0) G 83 [some (.ref (ad 70)), some (.int l1), some (.int l2), some (.int l3), some (.int l4), some (.int l5), some (.int l6), some (.int l7), some (.int l8), none] [] := by
  intro n
  induction n with
  | zero => intro l1 l2 l3 l4 l5 l6 l7 l8 G hsh; rw [sh_L_holds_83.eq_1] at hsh; cases hsh
  | succ n ih =>
    intro l1 l2 l3 l4 l5 l6 l7 l8 G hsh
    rw [sh_L_holds_83.eq_2] at hsh
    have hj168 : ∀ (l1 : Int32) (l2 : Int32) (l3 : Int32) (l4 : Int32) (l5 : Int32) (l6 : Int32) (l7 : Int32) (l8 : Int32) (l9 : Int32) (G : gG) , sh_L_holds_j168 kt208 (sh_L_holds_83 kt208 n) l1 l2 l3 l4 l5 l6 l7 l8 l9 G = some (r0, G0) → V p l e (rM 7 162) s m args below meth c (isW ad) D t ad 0 0 10 (Qi below D t ad args s r0 G0) G 168 [some (.ref (ad 70)), some (.int l1), some (.int l2), some (.int l3), some (.int l4), some (.int l5), some (.int l6), some (.int l7), some (.int l8), some (.int l9)] [] := by
      intro l1 l2 l3 l4 l5 l6 l7 l8 l9 G hsh
      unfold sh_L_holds_j168 at hsh
      refine v_aloadn C dL_holds_168 rfl ?_
      refine v_iload C dL_holds_169 rfl ?_
      obtain ⟨r18, e17, hsh⟩ := obp_e hsh
      refine v_callS (nP := 2) C (c_L_isOn l D t ad hI  e17) k274 k272 k273 k0 yo_L_isOn ⟨Nat.le_of_ble_eq_true rfl, Nat.le_of_ble_eq_true rfl, rfl, rfl, Nat.zero_le _, Nat.zero_le _⟩ rfl rfl (Nat.le_of_ble_eq_true rfl) dL_holds_171 ?_
      refine v_if_eq C 198 dL_holds_174 (by decide) (fun hc => ?_) (fun hc => ?_)
      · replace hsh := ite_p hc hsh
        refine v_iload C dL_holds_198 rfl ?_
        refine v_istore C dL_holds_200 (by decide) ?_
        refine v_iinc C dL_holds_202 rfl (v := 1) (by decide) (by decide) ?_
        refine v_goto C 83 dL_holds_205 (by decide) ?_
        exact v_wk (ih _ _ _ _ _ _ _ _ _ hsh) (wk_of (And.intro rfl (And.intro rfl (And.intro rfl (And.intro rfl (And.intro rfl (And.intro rfl (And.intro rfl (And.intro rfl (And.intro rfl trivial))))))))))
      · replace hsh := ite_n hc hsh
        refine v_aloadn C dL_holds_177 rfl ?_
        refine v_iload C dL_holds_178 rfl ?_
        obtain ⟨r20, e19, hsh⟩ := obp_e hsh
        refine v_callS (nP := 2) C (c_L_isOn l D t ad hI  e19) k274 k272 k273 k0 yo_L_isOn ⟨Nat.le_of_ble_eq_true rfl, Nat.le_of_ble_eq_true rfl, rfl, rfl, Nat.zero_le _, Nat.zero_le _⟩ rfl rfl (Nat.le_of_ble_eq_true rfl) dL_holds_180 ?_
        refine v_if_eq C 198 dL_holds_183 (by decide) (fun hc => ?_) (fun hc => ?_)
        · replace hsh := ite_p hc hsh
          refine v_iload C dL_holds_198 rfl ?_
          refine v_istore C dL_holds_200 (by decide) ?_
          refine v_iinc C dL_holds_202 rfl (v := 1) (by decide) (by decide) ?_
          refine v_goto C 83 dL_holds_205 (by decide) ?_
          exact v_wk (ih _ _ _ _ _ _ _ _ _ hsh) (wk_of (And.intro rfl (And.intro rfl (And.intro rfl (And.intro rfl (And.intro rfl (And.intro rfl (And.intro rfl (And.intro rfl (And.intro rfl trivial))))))))))
        · replace hsh := ite_n hc hsh
          refine v_iload C dL_holds_186 rfl ?_
          refine v_iload C dL_holds_188 rfl ?_
          refine v_ic_le C 198 dL_holds_190 (by decide) (fun hc => ?_) (fun hc => ?_)
          · replace hsh := ite_p hc hsh
            refine v_iload C dL_holds_198 rfl ?_
            refine v_istore C dL_holds_200 (by decide) ?_
            refine v_iinc C dL_holds_202 rfl (v := 1) (by decide) (by decide) ?_
            refine v_goto C 83 dL_holds_205 (by decide) ?_
            exact v_wk (ih _ _ _ _ _ _ _ _ _ hsh) (wk_of (And.intro rfl (And.intro rfl (And.intro rfl (And.intro rfl (And.intro rfl (And.intro rfl (And.intro rfl (And.intro rfl (And.intro rfl trivial))))))))))
          · replace hsh := ite_n hc hsh
            refine v_iload C dL_holds_193 rfl ?_
            refine v_goto C 200 dL_holds_195 (by decide) ?_
            refine v_istore C dL_holds_200 (by decide) ?_
            refine v_iinc C dL_holds_202 rfl (v := 1) (by decide) (by decide) ?_
            refine v_goto C 83 dL_holds_205 (by decide) ?_
            exact v_wk (ih _ _ _ _ _ _ _ _ _ hsh) (wk_of (And.intro rfl (And.intro rfl (And.intro rfl (And.intro rfl (And.intro rfl (And.intro rfl (And.intro rfl (And.intro rfl (And.intro rfl trivial))))))))))
    refine v_iload C dL_holds_83 rfl ?_
    refine v_bipush C dL_holds_85 (v := 16) (by decide) ?_
    refine v_ic_ge C 208 dL_holds_87 (by decide) (fun hc => ?_) (fun hc => ?_)
    · replace hsh := ite_p hc hsh
      exact v_wk (hk208 _ _ _ _ _ _ _ _ hsh) (wk_of (And.intro rfl (And.intro rfl (And.intro rfl (And.intro rfl (And.intro rfl (And.intro rfl (And.intro rfl (And.intro rfl trivial)))))))))
    · replace hsh := ite_n hc hsh
      refine v_iloadn C dL_holds_90 rfl ?_
      refine v_aloadn C dL_holds_91 rfl ?_
      refine v_iload C dL_holds_92 rfl ?_
      refine v_bipush C dL_holds_94 (v := 6) (by decide) ?_
      obtain ⟨r10, e9, hsh⟩ := obp_e hsh
      refine v_callI (nP := 2) (k := 70) C (by decide) rfl rfl (c_X3_lamp l D t ad hI  e9) k251 k248 k249 k250 k1 yo_X3_lamp ⟨Nat.le_of_ble_eq_true rfl, Nat.le_of_ble_eq_true rfl, rfl, rfl, Nat.zero_le _, Nat.zero_le _⟩ rfl rfl (Nat.le_of_ble_eq_true rfl) dL_holds_96 ?_
      refine v_iload C dL_holds_99 rfl ?_
      refine v_ishr C dL_holds_101 ?_
      refine v_iconst C dL_holds_102 (v := 1) (by decide) ?_
      refine v_iand C dL_holds_103 ?_
      refine v_iadd C dL_holds_104 ?_
      obtain ⟨z11, e12, hsh⟩ := bni_e hsh
      refine v_bi e12 ?_
      refine v_istoren C dL_holds_105 (by decide) ?_
      refine v_aloadn C dL_holds_106 rfl ?_
      refine v_iload C dL_holds_107 rfl ?_
      refine v_iload C dL_holds_109 rfl ?_
      obtain ⟨r14, e13, hsh⟩ := obp_e hsh
      refine v_callI (nP := 2) (k := 70) C (by decide) rfl rfl (c_X3_apart l D t ad hI  e13) k278 k275 k276 k277 k1 yo_X3_apart ⟨Nat.le_of_ble_eq_true rfl, Nat.le_of_ble_eq_true rfl, rfl, rfl, Nat.zero_le _, Nat.zero_le _⟩ rfl rfl (Nat.le_of_ble_eq_true rfl) dL_holds_111 ?_
      refine v_istore C dL_holds_114 (by decide) ?_
      refine v_aloadn C dL_holds_116 rfl ?_
      refine v_iload C dL_holds_117 rfl ?_
      obtain ⟨r16, e15, hsh⟩ := obp_e hsh
      refine v_callS (nP := 2) C (c_L_isThere l D t ad hI  e15) k247 k245 k246 k0 yo_L_isThere ⟨Nat.le_of_ble_eq_true rfl, Nat.le_of_ble_eq_true rfl, rfl, rfl, Nat.zero_le _, Nat.zero_le _⟩ rfl rfl (Nat.le_of_ble_eq_true rfl) dL_holds_119 ?_
      refine v_if_eq C 160 dL_holds_122 (by decide) (fun hc => ?_) (fun hc => ?_)
      · replace hsh := ite_p hc hsh
        refine v_iload C dL_holds_160 rfl ?_
        refine v_iconst C dL_holds_162 (v := -1) (by decide) ?_
        refine v_ic_eq C 168 dL_holds_163 (by decide) (fun hc => ?_) (fun hc => ?_)
        · replace hsh := ite_p hc hsh
          exact v_wk (hj168 _ _ _ _ _ _ _ _ _ _ hsh) (wk_of (And.intro rfl (And.intro rfl (And.intro rfl (And.intro rfl (And.intro rfl (And.intro rfl (And.intro rfl (And.intro rfl (And.intro rfl (And.intro rfl trivial)))))))))))
        · replace hsh := ite_n hc hsh
          refine v_iconst C dL_holds_166 (v := 0) (by decide) ?_
          obtain ⟨rfl, rfl⟩ := so_i hsh
          exact v_zret C (Or.inl rfl) dL_holds_167
      · replace hsh := ite_n hc hsh
        refine v_iload C dL_holds_125 rfl ?_
        refine v_aloadn C dL_holds_127 rfl ?_
        refine v_iload C dL_holds_128 rfl ?_
        refine v_iload C dL_holds_130 rfl ?_
        obtain ⟨r22, e21, hsh⟩ := obp_e hsh
        refine v_callI (nP := 2) (k := 70) C (by decide) rfl rfl (c_X3_apart l D t ad hI  e21) k278 k275 k276 k277 k1 yo_X3_apart ⟨Nat.le_of_ble_eq_true rfl, Nat.le_of_ble_eq_true rfl, rfl, rfl, Nat.zero_le _, Nat.zero_le _⟩ rfl rfl (Nat.le_of_ble_eq_true rfl) dL_holds_132 ?_
        refine v_ic_ne C 166 dL_holds_135 (by decide) (fun hc => ?_) (fun hc => ?_)
        · replace hsh := ite_n hc hsh
          refine v_iconst C dL_holds_166 (v := 0) (by decide) ?_
          obtain ⟨rfl, rfl⟩ := so_i hsh
          exact v_zret C (Or.inl rfl) dL_holds_167
        · replace hsh := ite_p hc hsh
          refine v_iload C dL_holds_138 rfl ?_
          refine v_if_lt C 166 dL_holds_140 (by decide) (fun hc => ?_) (fun hc => ?_)
          · replace hsh := ite_p hc hsh
            refine v_iconst C dL_holds_166 (v := 0) (by decide) ?_
            obtain ⟨rfl, rfl⟩ := so_i hsh
            exact v_zret C (Or.inl rfl) dL_holds_167
          · replace hsh := ite_n hc hsh
            refine v_iload C dL_holds_143 rfl ?_
            refine v_bipush C dL_holds_145 (v := 50) (by decide) ?_
            refine v_aloadn C dL_holds_147 rfl ?_
            refine v_bipush C dL_holds_148 (v := 9) (by decide) ?_
            obtain ⟨r24, e23, hsh⟩ := obp_e hsh
            refine v_callI (nP := 1) (k := 70) C (by decide) rfl rfl (c_X3_count l D t ad hI  e23) k283 k280 k281 k282 k1 yo_X3_count ⟨Nat.le_of_ble_eq_true rfl, Nat.le_of_ble_eq_true rfl, rfl, rfl, Nat.zero_le _, Nat.zero_le _⟩ rfl rfl (Nat.le_of_ble_eq_true rfl) dL_holds_150 ?_
            refine v_imul C dL_holds_153 ?_
            refine v_ic_le C 168 dL_holds_154 (by decide) (fun hc => ?_) (fun hc => ?_)
            · replace hsh := ite_p hc hsh
              exact v_wk (hj168 _ _ _ _ _ _ _ _ _ _ hsh) (wk_of (And.intro rfl (And.intro rfl (And.intro rfl (And.intro rfl (And.intro rfl (And.intro rfl (And.intro rfl (And.intro rfl (And.intro rfl (And.intro rfl trivial)))))))))))
            · replace hsh := ite_n hc hsh
              refine v_goto C 166 dL_holds_157 (by decide) ?_
              refine v_iconst C dL_holds_166 (v := 0) (by decide) ?_
              obtain ⟨rfl, rfl⟩ := so_i hsh
              exact v_zret C (Or.inl rfl) dL_holds_167
set_option maxRecDepth 100000 in
set_option maxHeartbeats 4000000 in
theorem lp_L_holds_19 {p : Program} {l : Launch} {e : Env} {s : State} {m : MethodId} {args : Array Value} {below : List Frame} {meth : Method} {c : Code} {D : va_G} {t : gT} {ad : Nat → Nat} (C : gC p s m args meth c cL_holds RL 10 (some .boolean) (isW ad) D t ad) (hI : gI ad) {r0 : Int32} {G0 : gG} {kt225 : Int32 → Int32 → Int32 → Int32 → Int32 → Int32 → gG → Option (Int32 × gG)} (hk225 : ∀ (l1 : Int32) (l2 : Int32) (l3 : Int32) (l4 : Int32) (l5 : Int32) (l6 : Int32) (G : gG) , kt225 l1 l2 l3 l4 l5 l6 G = some (r0, G0) → V p l e (rM 7 162) s m args below meth c (isW ad) D t ad 0 0 10 (Qi below D t ad args s r0 G0) G 225 [some (.ref (ad 70)), some (.int l1), some (.int l2), some (.int l3), some (.int l4), some (.int l5), some (.int l6), none, none, none] []) : ∀ (n : Nat) (l1 : Int32) (l2 : Int32) (l3 : Int32) (l4 : Int32) (l5 : Int32) (l6 : Int32) (l7 : Int32) (G : gG) , sh_L_holds_19 kt225 n l1 l2 l3 l4 l5 l6 l7 G = some (r0, G0) → V p l e (rM 7 162) s m args below meth c (isW ad) D t ad 0 0 10 (Qi below D t ad args s r0 G0) G 19 [some (.ref (ad 70)), some (.int l1), some (.int l2), some (.int l3), some (.int l4), some (.int l5), some (.int l6), some (.int l7), none, none] [] := by
  intro n
  induction n with
  | zero => intro l1 l2 l3 l4 l5 l6 l7 G hsh; rw [sh_L_holds_19.eq_1] at hsh; cases hsh
  | succ n ih =>
    intro l1 l2 l3 l4 l5 l6 l7 G hsh
    rw [sh_L_holds_19.eq_2] at hsh
    have hj53 : ∀ (l1 : Int32) (l3 : Int32) (l4 : Int32) (l5 : Int32) (l6 : Int32) (l7 : Int32) (x0 : Int32) (x1 : Int32) (G : gG) , sh_L_holds_j53 kt225 (sh_L_holds_19 kt225 n) l1 l3 l4 l5 l6 l7 x0 x1 G = some (r0, G0) → V p l e (rM 7 162) s m args below meth c (isW ad) D t ad 0 0 10 (Qi below D t ad args s r0 G0) G 53 [some (.ref (ad 70)), some (.int l1), none, some (.int l3), some (.int l4), some (.int l5), some (.int l6), some (.int l7), none, none] [.int x1, .int x0] := by
      intro l1 l3 l4 l5 l6 l7 x0 x1 G hsh
      unfold sh_L_holds_j53 at hsh
      refine v_iadd C dL_holds_53 ?_
      refine v_istoren C dL_holds_54 (by decide) ?_
      refine v_iload C dL_holds_55 rfl ?_
      refine v_aloadn C dL_holds_57 rfl ?_
      refine v_iload C dL_holds_58 rfl ?_
      refine v_iconst C dL_holds_60 (v := 4) (by decide) ?_
      obtain ⟨r6, e5, hsh⟩ := obp_e hsh
      refine v_callI (nP := 2) (k := 70) C (by decide) rfl rfl (c_X3_lamp l D t ad hI  e5) k251 k248 k249 k250 k1 yo_X3_lamp ⟨Nat.le_of_ble_eq_true rfl, Nat.le_of_ble_eq_true rfl, rfl, rfl, Nat.zero_le _, Nat.zero_le _⟩ rfl rfl (Nat.le_of_ble_eq_true rfl) dL_holds_61 ?_
      refine v_iadd C dL_holds_64 ?_
      refine v_istore C dL_holds_65 (by decide) ?_
      refine v_iload C dL_holds_67 rfl ?_
      refine v_aloadn C dL_holds_69 rfl ?_
      refine v_iload C dL_holds_70 rfl ?_
      refine v_bipush C dL_holds_72 (v := 9) (by decide) ?_
      obtain ⟨r8, e7, hsh⟩ := obp_e hsh
      refine v_callI (nP := 2) (k := 70) C (by decide) rfl rfl (c_X3_lamp l D t ad hI  e7) k251 k248 k249 k250 k1 yo_X3_lamp ⟨Nat.le_of_ble_eq_true rfl, Nat.le_of_ble_eq_true rfl, rfl, rfl, Nat.zero_le _, Nat.zero_le _⟩ rfl rfl (Nat.le_of_ble_eq_true rfl) dL_holds_74 ?_
      refine v_iadd C dL_holds_77 ?_
      refine v_istore C dL_holds_78 (by decide) ?_
      refine v_iconst C dL_holds_80 (v := 0) (by decide) ?_
      refine v_istore C dL_holds_81 (by decide) ?_
      refine v_wk (lp_L_holds_83 C hI (fun l1 l2 l3 l4 l5 l6 l7 G hsh => ?_) FU _ _ _ _ _ _ _ _ _ hsh) (wk_of (And.intro rfl (And.intro rfl (And.intro rfl (And.intro rfl (And.intro rfl (And.intro rfl (And.intro rfl (And.intro rfl (And.intro rfl trivial))))))))))
      refine v_aloadn C dL_holds_208 rfl ?_
      refine v_iload C dL_holds_209 rfl ?_
      obtain ⟨r26, e25, hsh⟩ := obp_e hsh
      refine v_callS (nP := 2) C (c_L_isLamp l D t ad hI  e25) k314 k312 k313 k0 yo_L_isLamp ⟨Nat.le_of_ble_eq_true rfl, Nat.le_of_ble_eq_true rfl, rfl, rfl, Nat.zero_le _, Nat.zero_le _⟩ rfl rfl (Nat.le_of_ble_eq_true rfl) dL_holds_211 ?_
      refine v_if_ne C 219 dL_holds_214 (by decide) (fun hc => ?_) (fun hc => ?_)
      · replace hsh := ite_n hc hsh
        refine v_iinc C dL_holds_219 rfl (v := 1) (by decide) (by decide) ?_
        refine v_goto C 19 dL_holds_222 (by decide) ?_
        exact v_wk (ih _ _ _ _ _ _ _ _ hsh) (wk_of (And.intro rfl (And.intro rfl (And.intro rfl (And.intro rfl (And.intro rfl (And.intro rfl (And.intro rfl (And.intro rfl trivial)))))))))
      · replace hsh := ite_p hc hsh
        refine v_iconst C dL_holds_217 (v := 0) (by decide) ?_
        obtain ⟨rfl, rfl⟩ := so_i hsh
        exact v_zret C (Or.inl rfl) dL_holds_218
    refine v_iload C dL_holds_19 rfl ?_
    refine v_bipush C dL_holds_21 (v := 16) (by decide) ?_
    refine v_ic_ge C 225 dL_holds_23 (by decide) (fun hc => ?_) (fun hc => ?_)
    · replace hsh := ite_p hc hsh
      exact v_wk (hk225 _ _ _ _ _ _ _ hsh) (wk_of (And.intro rfl (And.intro rfl (And.intro rfl (And.intro rfl (And.intro rfl (And.intro rfl (And.intro rfl trivial))))))))
    · replace hsh := ite_n hc hsh
      refine v_aloadn C dL_holds_26 rfl ?_
      refine v_iload C dL_holds_27 rfl ?_
      obtain ⟨r2, e1, hsh⟩ := obp_e hsh
      refine v_callS (nP := 2) C (c_L_isThere l D t ad hI  e1) k247 k245 k246 k0 yo_L_isThere ⟨Nat.le_of_ble_eq_true rfl, Nat.le_of_ble_eq_true rfl, rfl, rfl, Nat.zero_le _, Nat.zero_le _⟩ rfl rfl (Nat.le_of_ble_eq_true rfl) dL_holds_29 ?_
      refine v_if_eq C 219 dL_holds_32 (by decide) (fun hc => ?_) (fun hc => ?_)
      · replace hsh := ite_p hc hsh
        refine v_iinc C dL_holds_219 rfl (v := 1) (by decide) (by decide) ?_
        refine v_goto C 19 dL_holds_222 (by decide) ?_
        exact v_wk (ih _ _ _ _ _ _ _ _ hsh) (wk_of (And.intro rfl (And.intro rfl (And.intro rfl (And.intro rfl (And.intro rfl (And.intro rfl (And.intro rfl (And.intro rfl trivial)))))))))
      · replace hsh := ite_n hc hsh
        refine v_iinc C dL_holds_35 rfl (v := 1) (by decide) (by decide) ?_
        refine v_iloadn C dL_holds_38 rfl ?_
        refine v_aloadn C dL_holds_39 rfl ?_
        refine v_iload C dL_holds_40 rfl ?_
        obtain ⟨r4, e3, hsh⟩ := obp_e hsh
        refine v_callS (nP := 2) C (c_L_isOn l D t ad hI  e3) k274 k272 k273 k0 yo_L_isOn ⟨Nat.le_of_ble_eq_true rfl, Nat.le_of_ble_eq_true rfl, rfl, rfl, Nat.zero_le _, Nat.zero_le _⟩ rfl rfl (Nat.le_of_ble_eq_true rfl) dL_holds_42 ?_
        refine v_if_eq C 52 dL_holds_45 (by decide) (fun hc => ?_) (fun hc => ?_)
        · replace hsh := ite_p hc hsh
          refine v_iconst C dL_holds_52 (v := 0) (by decide) ?_
          exact v_wk (hj53 _ _ _ _ _ _ _ _ _ hsh) (wk_of (And.intro rfl (And.intro rfl (And.intro rfl (And.intro rfl (And.intro rfl (And.intro rfl (And.intro rfl trivial))))))))
        · replace hsh := ite_n hc hsh
          refine v_iconst C dL_holds_48 (v := 1) (by decide) ?_
          refine v_goto C 53 dL_holds_49 (by decide) ?_
          exact v_wk (hj53 _ _ _ _ _ _ _ _ _ hsh) (wk_of (And.intro rfl (And.intro rfl (And.intro rfl (And.intro rfl (And.intro rfl (And.intro rfl (And.intro rfl trivial))))))))
set_option maxRecDepth 100000 in
set_option maxHeartbeats 4000000 in
theorem c_L_holds (l : Launch) (D : va_G) (t : gT) (ad : Nat → Nat) (hI : gI ad) {G : gG} {r0 : Int32} {G0 : gG} (hsh : sh_L_holds G = some (r0, G0)) : Mi l D t ad yL_holds cL_holds 10 (some .boolean) (rM 7 162) [.ref (ad 70)] G r0 G0 := by
  refine m_go hI RL rfl (by decide +kernel) ⟨rfl, rfl⟩ (Nat.le_of_ble_eq_true rfl) rfl [some (.ref (ad 70)), none, none, none, none, none, none, none, none, none] rfl (fun p e s m args below meth c C => ?_)
  unfold sh_L_holds at hsh
  have hj486 : ∀ (l6 : Int32) (x0 : Int32) (x1 : Int32) (G : gG) , sh_L_holds_j486 l6 x0 x1 G = some (r0, G0) → V p l e (rM 7 162) s m args below meth c (isW ad) D t ad 0 0 10 (Qi below D t ad args s r0 G0) G 486 [some (.ref (ad 70)), none, none, none, none, none, some (.int l6), none, none, none] [.int x1, .int x0] := by
    intro l6 x0 x1 G hsh
    unfold sh_L_holds_j486 at hsh
    refine v_ic_ne C 505 dL_holds_486 (by decide) (fun hc => ?_) (fun hc => ?_)
    · replace hsh := ite_n hc hsh
      refine v_iconst C dL_holds_505 (v := 0) (by decide) ?_
      obtain ⟨rfl, rfl⟩ := so_i hsh
      exact v_zret C (Or.inl rfl) dL_holds_506
    · replace hsh := ite_p hc hsh
      refine v_iload C dL_holds_489 rfl ?_
      refine v_if_ne C 501 dL_holds_491 (by decide) (fun hc => ?_) (fun hc => ?_)
      · replace hsh := ite_n hc hsh
        refine v_iconst C dL_holds_501 (v := 1) (by decide) ?_
        refine v_goto C 506 dL_holds_502 (by decide) ?_
        obtain ⟨rfl, rfl⟩ := so_i hsh
        exact v_zret C (Or.inr rfl) dL_holds_506
      · replace hsh := ite_p hc hsh
        refine v_aloadn C dL_holds_494 rfl ?_
        obtain ⟨r37, e36, hsh⟩ := obp_e hsh
        refine v_callI (nP := 0) (k := 70) C (by decide) rfl rfl (c_X3_reason l D t ad hI  e36) k340 k337 k338 k339 k1 yo_X3_reason ⟨Nat.le_of_ble_eq_true rfl, Nat.le_of_ble_eq_true rfl, rfl, rfl, Nat.zero_le _, Nat.zero_le _⟩ rfl rfl (Nat.le_of_ble_eq_true rfl) dL_holds_495 ?_
        refine v_if_ne C 505 dL_holds_498 (by decide) (fun hc => ?_) (fun hc => ?_)
        · replace hsh := ite_n hc hsh
          refine v_iconst C dL_holds_505 (v := 0) (by decide) ?_
          obtain ⟨rfl, rfl⟩ := so_i hsh
          exact v_zret C (Or.inl rfl) dL_holds_506
        · replace hsh := ite_p hc hsh
          refine v_iconst C dL_holds_501 (v := 1) (by decide) ?_
          refine v_goto C 506 dL_holds_502 (by decide) ?_
          obtain ⟨rfl, rfl⟩ := so_i hsh
          exact v_zret C (Or.inr rfl) dL_holds_506
  have hj485 : ∀ (l6 : Int32) (x0 : Int32) (G : gG) , sh_L_holds_j485 l6 x0 G = some (r0, G0) → V p l e (rM 7 162) s m args below meth c (isW ad) D t ad 0 0 10 (Qi below D t ad args s r0 G0) G 485 [some (.ref (ad 70)), none, none, none, none, none, some (.int l6), none, none, none] [.int x0] := by
    intro l6 x0 G hsh
    unfold sh_L_holds_j485 at hsh
    refine v_iconst C dL_holds_485 (v := 0) (by decide) ?_
    exact v_wk (hj486 _ _ _ _ hsh) (wk_of (And.intro rfl (And.intro rfl trivial)))
  have hj467 : ∀ (l6 : Int32) (x0 : Int32) (G : gG) , sh_L_holds_j467 l6 x0 G = some (r0, G0) → V p l e (rM 7 162) s m args below meth c (isW ad) D t ad 0 0 10 (Qi below D t ad args s r0 G0) G 467 [some (.ref (ad 70)), none, none, none, none, none, some (.int l6), none, none, none] [.int x0] := by
    intro l6 x0 G hsh
    unfold sh_L_holds_j467 at hsh
    refine v_aloadn C dL_holds_467 rfl ?_
    refine v_iconst C dL_holds_468 (v := 4) (by decide) ?_
    obtain ⟨r35, e34, hsh⟩ := obp_e hsh
    refine v_callI (nP := 1) (k := 70) C (by decide) rfl rfl (c_X3_count l D t ad hI  e34) k283 k280 k281 k282 k1 yo_X3_count ⟨Nat.le_of_ble_eq_true rfl, Nat.le_of_ble_eq_true rfl, rfl, rfl, Nat.zero_le _, Nat.zero_le _⟩ rfl rfl (Nat.le_of_ble_eq_true rfl) dL_holds_469 ?_
    refine v_iconst C dL_holds_472 (v := 1) (by decide) ?_
    refine v_ic_le C 485 dL_holds_473 (by decide) (fun hc => ?_) (fun hc => ?_)
    · replace hsh := ite_p hc hsh
      exact v_wk (hj485 _ _ _ hsh) (wk_of (And.intro rfl (And.intro rfl trivial)))
    · replace hsh := ite_n hc hsh
      refine v_iload C dL_holds_476 rfl ?_
      refine v_if_le C 485 dL_holds_478 (by decide) (fun hc => ?_) (fun hc => ?_)
      · replace hsh := ite_p hc hsh
        exact v_wk (hj485 _ _ _ hsh) (wk_of (And.intro rfl (And.intro rfl trivial)))
      · replace hsh := ite_n hc hsh
        refine v_iconst C dL_holds_481 (v := 1) (by decide) ?_
        refine v_goto C 486 dL_holds_482 (by decide) ?_
        exact v_wk (hj486 _ _ _ _ hsh) (wk_of (And.intro rfl (And.intro rfl trivial)))
  have hj454 : ∀ (l6 : Int32) (G : gG) , sh_L_holds_j454 l6 G = some (r0, G0) → V p l e (rM 7 162) s m args below meth c (isW ad) D t ad 0 0 10 (Qi below D t ad args s r0 G0) G 454 [some (.ref (ad 70)), none, none, none, none, none, some (.int l6), none, none, none] [] := by
    intro l6 G hsh
    unfold sh_L_holds_j454 at hsh
    refine v_aloadn C dL_holds_454 rfl ?_
    obtain ⟨r33, e32, hsh⟩ := obp_e hsh
    refine v_callI (nP := 0) (k := 70) C (by decide) rfl rfl (c_X3_reason l D t ad hI  e32) k340 k337 k338 k339 k1 yo_X3_reason ⟨Nat.le_of_ble_eq_true rfl, Nat.le_of_ble_eq_true rfl, rfl, rfl, Nat.zero_le _, Nat.zero_le _⟩ rfl rfl (Nat.le_of_ble_eq_true rfl) dL_holds_455 ?_
    refine v_iconst C dL_holds_458 (v := 2) (by decide) ?_
    refine v_ic_ne C 466 dL_holds_459 (by decide) (fun hc => ?_) (fun hc => ?_)
    · replace hsh := ite_n hc hsh
      refine v_iconst C dL_holds_466 (v := 0) (by decide) ?_
      exact v_wk (hj467 _ _ _ hsh) (wk_of (And.intro rfl (And.intro rfl trivial)))
    · replace hsh := ite_p hc hsh
      refine v_iconst C dL_holds_462 (v := 1) (by decide) ?_
      refine v_goto C 467 dL_holds_463 (by decide) ?_
      exact v_wk (hj467 _ _ _ hsh) (wk_of (And.intro rfl (And.intro rfl trivial)))
  have hj422 : ∀ (l2 : Int32) (l6 : Int32) (l8 : Int32) (x0 : Int32) (x1 : Int32) (G : gG) , sh_L_holds_j422 l2 l6 l8 x0 x1 G = some (r0, G0) → V p l e (rM 7 162) s m args below meth c (isW ad) D t ad 0 0 10 (Qi below D t ad args s r0 G0) G 422 [some (.ref (ad 70)), none, some (.int l2), none, none, none, some (.int l6), none, some (.int l8), none] [.int x1, .int x0] := by
    intro l2 l6 l8 x0 x1 G hsh
    unfold sh_L_holds_j422 at hsh
    refine v_ic_ne C 505 dL_holds_422 (by decide) (fun hc => ?_) (fun hc => ?_)
    · replace hsh := ite_n hc hsh
      refine v_iconst C dL_holds_505 (v := 0) (by decide) ?_
      obtain ⟨rfl, rfl⟩ := so_i hsh
      exact v_zret C (Or.inl rfl) dL_holds_506
    · replace hsh := ite_p hc hsh
      refine v_iloadn C dL_holds_425 rfl ?_
      refine v_if_gt C 454 dL_holds_426 (by decide) (fun hc => ?_) (fun hc => ?_)
      · replace hsh := ite_p hc hsh
        exact v_wk (hj454 _ _ hsh) (wk_of (And.intro rfl (And.intro rfl trivial)))
      · replace hsh := ite_n hc hsh
        refine v_iload C dL_holds_429 rfl ?_
        refine v_bipush C dL_holds_431 (v := -5) (by decide) ?_
        refine v_ic_ne C 505 dL_holds_433 (by decide) (fun hc => ?_) (fun hc => ?_)
        · replace hsh := ite_n hc hsh
          refine v_iconst C dL_holds_505 (v := 0) (by decide) ?_
          obtain ⟨rfl, rfl⟩ := so_i hsh
          exact v_zret C (Or.inl rfl) dL_holds_506
        · replace hsh := ite_p hc hsh
          refine v_aloadn C dL_holds_436 rfl ?_
          refine v_iconst C dL_holds_437 (v := 0) (by decide) ?_
          obtain ⟨r39, G40, e38, hsh⟩ := obi_e hsh
          refine v_callI (nP := 1) (k := 70) C (by decide) rfl rfl (c_X3_next l D t ad hI  e38) k336 k333 k334 k335 k1 yo_X3_next ⟨Nat.le_of_ble_eq_true rfl, Nat.le_of_ble_eq_true rfl, rfl, rfl, Nat.zero_le _, Nat.zero_le _⟩ rfl rfl (Nat.le_of_ble_eq_true rfl) dL_holds_438 ?_
          refine v_bipush C dL_holds_441 (v := -5) (by decide) ?_
          refine v_ic_ne C 505 dL_holds_443 (by decide) (fun hc => ?_) (fun hc => ?_)
          · replace hsh := ite_n hc hsh
            refine v_iconst C dL_holds_505 (v := 0) (by decide) ?_
            obtain ⟨rfl, rfl⟩ := so_i hsh
            exact v_zret C (Or.inl rfl) dL_holds_506
          · replace hsh := ite_p hc hsh
            refine v_aloadn C dL_holds_446 rfl ?_
            obtain ⟨r42, e41, hsh⟩ := obp_e hsh
            refine v_callI (nP := 0) (k := 70) C (by decide) rfl rfl (c_X3_reason l D t ad hI  e41) k340 k337 k338 k339 k1 yo_X3_reason ⟨Nat.le_of_ble_eq_true rfl, Nat.le_of_ble_eq_true rfl, rfl, rfl, Nat.zero_le _, Nat.zero_le _⟩ rfl rfl (Nat.le_of_ble_eq_true rfl) dL_holds_447 ?_
            refine v_iconst C dL_holds_450 (v := 1) (by decide) ?_
            refine v_ic_ne C 505 dL_holds_451 (by decide) (fun hc => ?_) (fun hc => ?_)
            · replace hsh := ite_n hc hsh
              refine v_iconst C dL_holds_505 (v := 0) (by decide) ?_
              obtain ⟨rfl, rfl⟩ := so_i hsh
              exact v_zret C (Or.inl rfl) dL_holds_506
            · replace hsh := ite_p hc hsh
              exact v_wk (hj454 _ _ hsh) (wk_of (And.intro rfl (And.intro rfl trivial)))
  have hj412 : ∀ (l2 : Int32) (l6 : Int32) (l8 : Int32) (x0 : Int32) (G : gG) , sh_L_holds_j412 l2 l6 l8 x0 G = some (r0, G0) → V p l e (rM 7 162) s m args below meth c (isW ad) D t ad 0 0 10 (Qi below D t ad args s r0 G0) G 412 [some (.ref (ad 70)), none, some (.int l2), none, none, none, some (.int l6), none, some (.int l8), none] [.int x0] := by
    intro l2 l6 l8 x0 G hsh
    unfold sh_L_holds_j412 at hsh
    refine v_iload C dL_holds_412 rfl ?_
    refine v_if_ne C 421 dL_holds_414 (by decide) (fun hc => ?_) (fun hc => ?_)
    · replace hsh := ite_n hc hsh
      refine v_iconst C dL_holds_421 (v := 0) (by decide) ?_
      exact v_wk (hj422 _ _ _ _ _ _ hsh) (wk_of (And.intro rfl (And.intro rfl (And.intro rfl (And.intro rfl trivial)))))
    · replace hsh := ite_p hc hsh
      refine v_iconst C dL_holds_417 (v := 1) (by decide) ?_
      refine v_goto C 422 dL_holds_418 (by decide) ?_
      exact v_wk (hj422 _ _ _ _ _ _ hsh) (wk_of (And.intro rfl (And.intro rfl (And.intro rfl (And.intro rfl trivial)))))
  have hj389 : ∀ (l2 : Int32) (l6 : Int32) (x0 : Int32) (G : gG) , sh_L_holds_j389 l2 l6 x0 G = some (r0, G0) → V p l e (rM 7 162) s m args below meth c (isW ad) D t ad 0 0 10 (Qi below D t ad args s r0 G0) G 389 [some (.ref (ad 70)), none, some (.int l2), none, none, none, some (.int l6), none, none, none] [.int x0] := by
    intro l2 l6 x0 G hsh
    unfold sh_L_holds_j389 at hsh
    refine v_istore C dL_holds_389 (by decide) ?_
    refine v_aloadn C dL_holds_391 rfl ?_
    obtain ⟨r30, G31, e29, hsh⟩ := obi_e hsh
    refine v_callI (nP := 0) (k := 70) C (by decide) rfl rfl (c_X3_togetherIn l D t ad hI  e29) k323 k320 k321 k322 k1 yo_X3_togetherIn ⟨Nat.le_of_ble_eq_true rfl, Nat.le_of_ble_eq_true rfl, rfl, rfl, Nat.zero_le _, Nat.zero_le _⟩ rfl rfl (Nat.le_of_ble_eq_true rfl) dL_holds_392 ?_
    refine v_istore C dL_holds_395 (by decide) ?_
    refine v_iload C dL_holds_397 rfl ?_
    refine v_if_eq C 505 dL_holds_399 (by decide) (fun hc => ?_) (fun hc => ?_)
    · replace hsh := ite_p hc hsh
      refine v_iconst C dL_holds_505 (v := 0) (by decide) ?_
      obtain ⟨rfl, rfl⟩ := so_i hsh
      exact v_zret C (Or.inl rfl) dL_holds_506
    · replace hsh := ite_n hc hsh
      refine v_iload C dL_holds_402 rfl ?_
      refine v_if_ne C 411 dL_holds_404 (by decide) (fun hc => ?_) (fun hc => ?_)
      · replace hsh := ite_n hc hsh
        refine v_iconst C dL_holds_411 (v := 0) (by decide) ?_
        exact v_wk (hj412 _ _ _ _ _ hsh) (wk_of (And.intro rfl (And.intro rfl (And.intro rfl (And.intro rfl trivial)))))
      · replace hsh := ite_p hc hsh
        refine v_iconst C dL_holds_407 (v := 1) (by decide) ?_
        refine v_goto C 412 dL_holds_408 (by decide) ?_
        exact v_wk (hj412 _ _ _ _ _ hsh) (wk_of (And.intro rfl (And.intro rfl (And.intro rfl (And.intro rfl trivial)))))
  have hj388 : ∀ (l2 : Int32) (l6 : Int32) (G : gG) , sh_L_holds_j388 l2 l6 G = some (r0, G0) → V p l e (rM 7 162) s m args below meth c (isW ad) D t ad 0 0 10 (Qi below D t ad args s r0 G0) G 388 [some (.ref (ad 70)), none, some (.int l2), none, none, none, some (.int l6), none, none, none] [] := by
    intro l2 l6 G hsh
    unfold sh_L_holds_j388 at hsh
    refine v_iconst C dL_holds_388 (v := 0) (by decide) ?_
    exact v_wk (hj389 _ _ _ _ hsh) (wk_of (And.intro rfl (And.intro rfl (And.intro rfl trivial))))
  have hj372 : ∀ (l2 : Int32) (l6 : Int32) (x0 : Int32) (x1 : Int32) (G : gG) , sh_L_holds_j372 l2 l6 x0 x1 G = some (r0, G0) → V p l e (rM 7 162) s m args below meth c (isW ad) D t ad 0 0 10 (Qi below D t ad args s r0 G0) G 372 [some (.ref (ad 70)), none, some (.int l2), none, none, none, some (.int l6), none, none, none] [.int x1, .int x0] := by
    intro l2 l6 x0 x1 G hsh
    unfold sh_L_holds_j372 at hsh
    refine v_ic_ne C 388 dL_holds_372 (by decide) (fun hc => ?_) (fun hc => ?_)
    · replace hsh := ite_n hc hsh
      exact v_wk (hj388 _ _ _ hsh) (wk_of (And.intro rfl (And.intro rfl (And.intro rfl trivial))))
    · replace hsh := ite_p hc hsh
      refine v_aloadn C dL_holds_375 rfl ?_
      obtain ⟨r68, e67, hsh⟩ := obp_e hsh
      refine v_callI (nP := 0) (k := 70) C (by decide) rfl rfl (c_X3_spread l D t ad hI  e67) k318 k315 k316 k317 k1 yo_X3_spread ⟨Nat.le_of_ble_eq_true rfl, Nat.le_of_ble_eq_true rfl, rfl, rfl, Nat.zero_le _, Nat.zero_le _⟩ rfl rfl (Nat.le_of_ble_eq_true rfl) dL_holds_376 ?_
      refine v_iload C dL_holds_379 rfl ?_
      refine v_ic_ne C 388 dL_holds_381 (by decide) (fun hc => ?_) (fun hc => ?_)
      · replace hsh := ite_n hc hsh
        exact v_wk (hj388 _ _ _ hsh) (wk_of (And.intro rfl (And.intro rfl (And.intro rfl trivial))))
      · replace hsh := ite_p hc hsh
        refine v_iconst C dL_holds_384 (v := 1) (by decide) ?_
        refine v_goto C 389 dL_holds_385 (by decide) ?_
        exact v_wk (hj389 _ _ _ _ hsh) (wk_of (And.intro rfl (And.intro rfl (And.intro rfl trivial))))
  have hj358 : ∀ (l2 : Int32) (l6 : Int32) (x0 : Int32) (G : gG) , sh_L_holds_j358 l2 l6 x0 G = some (r0, G0) → V p l e (rM 7 162) s m args below meth c (isW ad) D t ad 0 0 10 (Qi below D t ad args s r0 G0) G 358 [some (.ref (ad 70)), none, some (.int l2), none, none, none, some (.int l6), none, none, none] [.int x0] := by
    intro l2 l6 x0 G hsh
    unfold sh_L_holds_j358 at hsh
    refine v_aloadn C dL_holds_358 rfl ?_
    refine v_bipush C dL_holds_359 (v := 7) (by decide) ?_
    obtain ⟨r66, e65, hsh⟩ := obp_e hsh
    refine v_callI (nP := 1) (k := 70) C (by decide) rfl rfl (c_X3_count l D t ad hI  e65) k283 k280 k281 k282 k1 yo_X3_count ⟨Nat.le_of_ble_eq_true rfl, Nat.le_of_ble_eq_true rfl, rfl, rfl, Nat.zero_le _, Nat.zero_le _⟩ rfl rfl (Nat.le_of_ble_eq_true rfl) dL_holds_361 ?_
    refine v_if_ne C 371 dL_holds_364 (by decide) (fun hc => ?_) (fun hc => ?_)
    · replace hsh := ite_n hc hsh
      refine v_iconst C dL_holds_371 (v := 0) (by decide) ?_
      exact v_wk (hj372 _ _ _ _ _ hsh) (wk_of (And.intro rfl (And.intro rfl (And.intro rfl trivial))))
    · replace hsh := ite_p hc hsh
      refine v_iconst C dL_holds_367 (v := 1) (by decide) ?_
      refine v_goto C 372 dL_holds_368 (by decide) ?_
      exact v_wk (hj372 _ _ _ _ _ hsh) (wk_of (And.intro rfl (And.intro rfl (And.intro rfl trivial))))
  have hj285 : ∀ (l2 : Int32) (l4 : Int32) (l5 : Int32) (l6 : Int32) (x0 : Int32) (x1 : Int32) (G : gG) , sh_L_holds_j285 l2 l4 l5 l6 x0 x1 G = some (r0, G0) → V p l e (rM 7 162) s m args below meth c (isW ad) D t ad 0 0 10 (Qi below D t ad args s r0 G0) G 285 [some (.ref (ad 70)), none, some (.int l2), none, some (.int l4), some (.int l5), some (.int l6), none, none, none] [.int x1, .int x0] := by
    intro l2 l4 l5 l6 x0 x1 G hsh
    unfold sh_L_holds_j285 at hsh
    refine v_ic_ne C 388 dL_holds_285 (by decide) (fun hc => ?_) (fun hc => ?_)
    · replace hsh := ite_n hc hsh
      exact v_wk (hj388 _ _ _ hsh) (wk_of (And.intro rfl (And.intro rfl (And.intro rfl trivial))))
    · replace hsh := ite_p hc hsh
      refine v_aloadn C dL_holds_288 rfl ?_
      refine v_iconst C dL_holds_289 (v := 5) (by decide) ?_
      obtain ⟨r52, e51, hsh⟩ := obp_e hsh
      refine v_callI (nP := 1) (k := 70) C (by decide) rfl rfl (c_X3_count l D t ad hI  e51) k283 k280 k281 k282 k1 yo_X3_count ⟨Nat.le_of_ble_eq_true rfl, Nat.le_of_ble_eq_true rfl, rfl, rfl, Nat.zero_le _, Nat.zero_le _⟩ rfl rfl (Nat.le_of_ble_eq_true rfl) dL_holds_290 ?_
      refine v_iload C dL_holds_293 rfl ?_
      refine v_ic_lt C 388 dL_holds_295 (by decide) (fun hc => ?_) (fun hc => ?_)
      · replace hsh := ite_p hc hsh
        exact v_wk (hj388 _ _ _ hsh) (wk_of (And.intro rfl (And.intro rfl (And.intro rfl trivial))))
      · replace hsh := ite_n hc hsh
        refine v_aloadn C dL_holds_298 rfl ?_
        refine v_bipush C dL_holds_299 (v := 6) (by decide) ?_
        obtain ⟨r54, e53, hsh⟩ := obp_e hsh
        refine v_callI (nP := 1) (k := 70) C (by decide) rfl rfl (c_X3_count l D t ad hI  e53) k283 k280 k281 k282 k1 yo_X3_count ⟨Nat.le_of_ble_eq_true rfl, Nat.le_of_ble_eq_true rfl, rfl, rfl, Nat.zero_le _, Nat.zero_le _⟩ rfl rfl (Nat.le_of_ble_eq_true rfl) dL_holds_301 ?_
        refine v_iload C dL_holds_304 rfl ?_
        refine v_ic_lt C 388 dL_holds_306 (by decide) (fun hc => ?_) (fun hc => ?_)
        · replace hsh := ite_p hc hsh
          exact v_wk (hj388 _ _ _ hsh) (wk_of (And.intro rfl (And.intro rfl (And.intro rfl trivial))))
        · replace hsh := ite_n hc hsh
          refine v_aloadn C dL_holds_309 rfl ?_
          refine v_bipush C dL_holds_310 (v := 7) (by decide) ?_
          obtain ⟨r56, e55, hsh⟩ := obp_e hsh
          refine v_callI (nP := 1) (k := 70) C (by decide) rfl rfl (c_X3_count l D t ad hI  e55) k283 k280 k281 k282 k1 yo_X3_count ⟨Nat.le_of_ble_eq_true rfl, Nat.le_of_ble_eq_true rfl, rfl, rfl, Nat.zero_le _, Nat.zero_le _⟩ rfl rfl (Nat.le_of_ble_eq_true rfl) dL_holds_312 ?_
          refine v_aloadn C dL_holds_315 rfl ?_
          refine v_iconst C dL_holds_316 (v := 0) (by decide) ?_
          obtain ⟨r58, e57, hsh⟩ := obp_e hsh
          refine v_callI (nP := 1) (k := 70) C (by decide) rfl rfl (c_X3_count l D t ad hI  e57) k283 k280 k281 k282 k1 yo_X3_count ⟨Nat.le_of_ble_eq_true rfl, Nat.le_of_ble_eq_true rfl, rfl, rfl, Nat.zero_le _, Nat.zero_le _⟩ rfl rfl (Nat.le_of_ble_eq_true rfl) dL_holds_317 ?_
          refine v_ic_gt C 388 dL_holds_320 (by decide) (fun hc => ?_) (fun hc => ?_)
          · replace hsh := ite_p hc hsh
            exact v_wk (hj388 _ _ _ hsh) (wk_of (And.intro rfl (And.intro rfl (And.intro rfl trivial))))
          · replace hsh := ite_n hc hsh
            refine v_aloadn C dL_holds_323 rfl ?_
            refine v_bipush C dL_holds_324 (v := 8) (by decide) ?_
            obtain ⟨r60, e59, hsh⟩ := obp_e hsh
            refine v_callI (nP := 1) (k := 70) C (by decide) rfl rfl (c_X3_count l D t ad hI  e59) k283 k280 k281 k282 k1 yo_X3_count ⟨Nat.le_of_ble_eq_true rfl, Nat.le_of_ble_eq_true rfl, rfl, rfl, Nat.zero_le _, Nat.zero_le _⟩ rfl rfl (Nat.le_of_ble_eq_true rfl) dL_holds_326 ?_
            refine v_bipush C dL_holds_329 (v := 16) (by decide) ?_
            refine v_ic_gt C 388 dL_holds_331 (by decide) (fun hc => ?_) (fun hc => ?_)
            · replace hsh := ite_p hc hsh
              exact v_wk (hj388 _ _ _ hsh) (wk_of (And.intro rfl (And.intro rfl (And.intro rfl trivial))))
            · replace hsh := ite_n hc hsh
              refine v_aloadn C dL_holds_334 rfl ?_
              refine v_bipush C dL_holds_335 (v := 8) (by decide) ?_
              obtain ⟨r62, e61, hsh⟩ := obp_e hsh
              refine v_callI (nP := 1) (k := 70) C (by decide) rfl rfl (c_X3_count l D t ad hI  e61) k283 k280 k281 k282 k1 yo_X3_count ⟨Nat.le_of_ble_eq_true rfl, Nat.le_of_ble_eq_true rfl, rfl, rfl, Nat.zero_le _, Nat.zero_le _⟩ rfl rfl (Nat.le_of_ble_eq_true rfl) dL_holds_337 ?_
              refine v_iconst C dL_holds_340 (v := 1) (by decide) ?_
              refine v_ic_eq C 388 dL_holds_341 (by decide) (fun hc => ?_) (fun hc => ?_)
              · replace hsh := ite_p hc hsh
                exact v_wk (hj388 _ _ _ hsh) (wk_of (And.intro rfl (And.intro rfl (And.intro rfl trivial))))
              · replace hsh := ite_n hc hsh
                refine v_aloadn C dL_holds_344 rfl ?_
                refine v_bipush C dL_holds_345 (v := 8) (by decide) ?_
                obtain ⟨r64, e63, hsh⟩ := obp_e hsh
                refine v_callI (nP := 1) (k := 70) C (by decide) rfl rfl (c_X3_count l D t ad hI  e63) k283 k280 k281 k282 k1 yo_X3_count ⟨Nat.le_of_ble_eq_true rfl, Nat.le_of_ble_eq_true rfl, rfl, rfl, Nat.zero_le _, Nat.zero_le _⟩ rfl rfl (Nat.le_of_ble_eq_true rfl) dL_holds_347 ?_
                refine v_if_ne C 357 dL_holds_350 (by decide) (fun hc => ?_) (fun hc => ?_)
                · replace hsh := ite_n hc hsh
                  refine v_iconst C dL_holds_357 (v := 0) (by decide) ?_
                  exact v_wk (hj358 _ _ _ _ hsh) (wk_of (And.intro rfl (And.intro rfl (And.intro rfl trivial))))
                · replace hsh := ite_p hc hsh
                  refine v_iconst C dL_holds_353 (v := 1) (by decide) ?_
                  refine v_goto C 358 dL_holds_354 (by decide) ?_
                  exact v_wk (hj358 _ _ _ _ hsh) (wk_of (And.intro rfl (And.intro rfl (And.intro rfl trivial))))
  have hj276 : ∀ (l2 : Int32) (l4 : Int32) (l5 : Int32) (l6 : Int32) (x0 : Int32) (G : gG) , sh_L_holds_j276 l2 l4 l5 l6 x0 G = some (r0, G0) → V p l e (rM 7 162) s m args below meth c (isW ad) D t ad 0 0 10 (Qi below D t ad args s r0 G0) G 276 [some (.ref (ad 70)), none, some (.int l2), none, some (.int l4), some (.int l5), some (.int l6), none, none, none] [.int x0] := by
    intro l2 l4 l5 l6 x0 G hsh
    unfold sh_L_holds_j276 at hsh
    refine v_iloadn C dL_holds_276 rfl ?_
    refine v_if_le C 284 dL_holds_277 (by decide) (fun hc => ?_) (fun hc => ?_)
    · replace hsh := ite_p hc hsh
      refine v_iconst C dL_holds_284 (v := 0) (by decide) ?_
      exact v_wk (hj285 _ _ _ _ _ _ _ hsh) (wk_of (And.intro rfl (And.intro rfl (And.intro rfl (And.intro rfl (And.intro rfl trivial))))))
    · replace hsh := ite_n hc hsh
      refine v_iconst C dL_holds_280 (v := 1) (by decide) ?_
      refine v_goto C 285 dL_holds_281 (by decide) ?_
      exact v_wk (hj285 _ _ _ _ _ _ _ hsh) (wk_of (And.intro rfl (And.intro rfl (And.intro rfl (And.intro rfl (And.intro rfl trivial))))))
  refine v_iconst C dL_holds_0 (v := 0) (by decide) ?_
  refine v_istoren C dL_holds_1 (by decide) ?_
  refine v_iconst C dL_holds_2 (v := 0) (by decide) ?_
  refine v_istoren C dL_holds_3 (by decide) ?_
  refine v_iconst C dL_holds_4 (v := 0) (by decide) ?_
  refine v_istoren C dL_holds_5 (by decide) ?_
  refine v_iconst C dL_holds_6 (v := 0) (by decide) ?_
  refine v_istore C dL_holds_7 (by decide) ?_
  refine v_iconst C dL_holds_9 (v := 0) (by decide) ?_
  refine v_istore C dL_holds_10 (by decide) ?_
  refine v_bipush C dL_holds_12 (v := -5) (by decide) ?_
  refine v_istore C dL_holds_14 (by decide) ?_
  refine v_iconst C dL_holds_16 (v := 0) (by decide) ?_
  refine v_istore C dL_holds_17 (by decide) ?_
  refine v_wk (lp_L_holds_19 C hI (fun l1 l2 l3 l4 l5 l6 G hsh => ?_) FU _ _ _ _ _ _ _ _ hsh) (wk_of (And.intro rfl (And.intro rfl (And.intro rfl (And.intro rfl (And.intro rfl (And.intro rfl (And.intro rfl (And.intro rfl trivial)))))))))
  refine v_aloadn C dL_holds_225 rfl ?_
  refine v_iconst C dL_holds_226 (v := 1) (by decide) ?_
  obtain ⟨r28, e27, hsh⟩ := obp_e hsh
  refine v_callI (nP := 1) (k := 70) C (by decide) rfl rfl (c_X3_count l D t ad hI  e27) k283 k280 k281 k282 k1 yo_X3_count ⟨Nat.le_of_ble_eq_true rfl, Nat.le_of_ble_eq_true rfl, rfl, rfl, Nat.zero_le _, Nat.zero_le _⟩ rfl rfl (Nat.le_of_ble_eq_true rfl) dL_holds_227 ?_
  refine v_iloadn C dL_holds_230 rfl ?_
  refine v_ic_ne C 388 dL_holds_231 (by decide) (fun hc => ?_) (fun hc => ?_)
  · replace hsh := ite_n hc hsh
    exact v_wk (hj388 _ _ _ hsh) (wk_of (And.intro rfl (And.intro rfl (And.intro rfl trivial))))
  · replace hsh := ite_p hc hsh
    refine v_aloadn C dL_holds_234 rfl ?_
    refine v_iconst C dL_holds_235 (v := 2) (by decide) ?_
    obtain ⟨r44, e43, hsh⟩ := obp_e hsh
    refine v_callI (nP := 1) (k := 70) C (by decide) rfl rfl (c_X3_count l D t ad hI  e43) k283 k280 k281 k282 k1 yo_X3_count ⟨Nat.le_of_ble_eq_true rfl, Nat.le_of_ble_eq_true rfl, rfl, rfl, Nat.zero_le _, Nat.zero_le _⟩ rfl rfl (Nat.le_of_ble_eq_true rfl) dL_holds_236 ?_
    refine v_iloadn C dL_holds_239 rfl ?_
    refine v_ic_ne C 388 dL_holds_240 (by decide) (fun hc => ?_) (fun hc => ?_)
    · replace hsh := ite_n hc hsh
      exact v_wk (hj388 _ _ _ hsh) (wk_of (And.intro rfl (And.intro rfl (And.intro rfl trivial))))
    · replace hsh := ite_p hc hsh
      refine v_iconst C dL_holds_243 (v := 2) (by decide) ?_
      refine v_aloadn C dL_holds_244 rfl ?_
      refine v_iconst C dL_holds_245 (v := 3) (by decide) ?_
      obtain ⟨r46, e45, hsh⟩ := obp_e hsh
      refine v_callI (nP := 1) (k := 70) C (by decide) rfl rfl (c_X3_count l D t ad hI  e45) k283 k280 k281 k282 k1 yo_X3_count ⟨Nat.le_of_ble_eq_true rfl, Nat.le_of_ble_eq_true rfl, rfl, rfl, Nat.zero_le _, Nat.zero_le _⟩ rfl rfl (Nat.le_of_ble_eq_true rfl) dL_holds_246 ?_
      refine v_imul C dL_holds_249 ?_
      refine v_iloadn C dL_holds_250 rfl ?_
      refine v_ic_ne C 388 dL_holds_251 (by decide) (fun hc => ?_) (fun hc => ?_)
      · replace hsh := ite_n hc hsh
        exact v_wk (hj388 _ _ _ hsh) (wk_of (And.intro rfl (And.intro rfl (And.intro rfl trivial))))
      · replace hsh := ite_p hc hsh
        refine v_aloadn C dL_holds_254 rfl ?_
        refine v_iconst C dL_holds_255 (v := 4) (by decide) ?_
        obtain ⟨r48, e47, hsh⟩ := obp_e hsh
        refine v_callI (nP := 1) (k := 70) C (by decide) rfl rfl (c_X3_count l D t ad hI  e47) k283 k280 k281 k282 k1 yo_X3_count ⟨Nat.le_of_ble_eq_true rfl, Nat.le_of_ble_eq_true rfl, rfl, rfl, Nat.zero_le _, Nat.zero_le _⟩ rfl rfl (Nat.le_of_ble_eq_true rfl) dL_holds_256 ?_
        refine v_iloadn C dL_holds_259 rfl ?_
        refine v_ic_gt C 388 dL_holds_260 (by decide) (fun hc => ?_) (fun hc => ?_)
        · replace hsh := ite_p hc hsh
          exact v_wk (hj388 _ _ _ hsh) (wk_of (And.intro rfl (And.intro rfl (And.intro rfl trivial))))
        · replace hsh := ite_n hc hsh
          refine v_aloadn C dL_holds_263 rfl ?_
          refine v_iconst C dL_holds_264 (v := 4) (by decide) ?_
          obtain ⟨r50, e49, hsh⟩ := obp_e hsh
          refine v_callI (nP := 1) (k := 70) C (by decide) rfl rfl (c_X3_count l D t ad hI  e49) k283 k280 k281 k282 k1 yo_X3_count ⟨Nat.le_of_ble_eq_true rfl, Nat.le_of_ble_eq_true rfl, rfl, rfl, Nat.zero_le _, Nat.zero_le _⟩ rfl rfl (Nat.le_of_ble_eq_true rfl) dL_holds_265 ?_
          refine v_if_le C 275 dL_holds_268 (by decide) (fun hc => ?_) (fun hc => ?_)
          · replace hsh := ite_p hc hsh
            refine v_iconst C dL_holds_275 (v := 0) (by decide) ?_
            exact v_wk (hj276 _ _ _ _ _ _ hsh) (wk_of (And.intro rfl (And.intro rfl (And.intro rfl (And.intro rfl (And.intro rfl trivial))))))
          · replace hsh := ite_n hc hsh
            refine v_iconst C dL_holds_271 (v := 1) (by decide) ?_
            refine v_goto C 276 dL_holds_272 (by decide) ?_
            exact v_wk (hj276 _ _ _ _ _ _ hsh) (wk_of (And.intro rfl (And.intro rfl (And.intro rfl (And.intro rfl (And.intro rfl trivial))))))
theorem yo_L_holds : yOk yL_holds 1 := ⟨by decide, by decide, by decide +kernel⟩

def sh_L_tale_6 (G : gG) (kt31 : Int64 → Option (Int64)) : Nat → Int64 → Int32 → Option (Int64)
  | 0, _, _ => none
  | n + 1, w1, l3 => (if (12 : Int32) ≤ l3 then kt31 w1 else (obp (sh_X3_count l3 G) fun r2 => sh_L_tale_6 G kt31 n (((31 : Int64) * w1) + ((r2).toInt64)) (l3 + 1)))
def sh_L_tale_33 (G : gG) (kt66 : Int64 → Option (Int64)) : Nat → Int64 → Int32 → Option (Int64)
  | 0, _, _ => none
  | n + 1, w1, l3 => (if (160 : Int32) ≤ l3 then kt66 w1 else (obp (sh_X3_lamp (l3 / (10 : Int32)) (l3 - l3 / (10 : Int32) * (10 : Int32)) G) fun r4 => sh_L_tale_33 G kt66 n (((31 : Int64) * w1) + ((r4).toInt64)) (l3 + 1)))
def sh_L_tale (G : gG) : Option (Int64) := (sh_L_tale_6 G (fun w1 => (sh_L_tale_33 G (fun w1 => some w1) FU w1 (0 : Int32))) FU (7 : Int64) (0 : Int32))
set_option maxRecDepth 100000 in
set_option maxHeartbeats 4000000 in
theorem lp_L_tale_6 {p : Program} {l : Launch} {e : Env} {s : State} {m : MethodId} {args : Array Value} {below : List Frame} {meth : Method} {c : Code} {D : va_G} {t : gT} {ad : Nat → Nat} (C : gC p s m args meth c cL_tale RL 4 (some .long) (isW ad) D t ad) (hI : gI ad) {G : gG} {r0 : Int64} {kt31 : Int64 → Option (Int64)} (hk31 : ∀ (w1 : Int64) , kt31 w1 = some r0 → V p l e (rM 6 133) s m args below meth c (isW ad) D t ad 0 0 4 (Ql below D t ad args s r0 G) G 31 [some (.ref (ad 70)), some (.long w1), none, none] []) : ∀ (n : Nat) (w1 : Int64) (l3 : Int32) , sh_L_tale_6 G kt31 n w1 l3 = some r0 → V p l e (rM 6 133) s m args below meth c (isW ad) D t ad 0 0 4 (Ql below D t ad args s r0 G) G 6 [some (.ref (ad 70)), some (.long w1), none, some (.int l3)] [] := by
  intro n
  induction n with
  | zero => intro w1 l3 hsh; rw [sh_L_tale_6.eq_1] at hsh; cases hsh
  | succ n ih =>
    intro w1 l3 hsh
    rw [sh_L_tale_6.eq_2] at hsh
    refine v_iloadn C dL_tale_6 rfl ?_
    refine v_bipush C dL_tale_7 (v := 12) (by decide) ?_
    refine v_ic_ge C 31 dL_tale_9 (by decide) (fun hc => ?_) (fun hc => ?_)
    · replace hsh := ite_p hc hsh
      exact v_wk (hk31 _ hsh) (wk_of (And.intro rfl (And.intro rfl trivial)))
    · replace hsh := ite_n hc hsh
      refine v_ldc2 C k416 dL_tale_12 ?_
      refine v_lloadn C dL_tale_15 rfl ?_
      refine v_lmul C dL_tale_16 ?_
      refine v_aloadn C dL_tale_17 rfl ?_
      refine v_iloadn C dL_tale_18 rfl ?_
      obtain ⟨r2, e1, hsh⟩ := obp_e hsh
      refine v_callI (nP := 1) (k := 70) C (by decide) rfl rfl (c_X3_count l D t ad hI  e1) k283 k280 k281 k282 k1 yo_X3_count ⟨Nat.le_of_ble_eq_true rfl, Nat.le_of_ble_eq_true rfl, rfl, rfl, Nat.zero_le _, Nat.zero_le _⟩ rfl rfl (Nat.le_of_ble_eq_true rfl) dL_tale_19 ?_
      refine v_i2l C dL_tale_22 ?_
      refine v_ladd C dL_tale_23 ?_
      refine v_lstoren C dL_tale_24 (by decide) ?_
      refine v_iinc C dL_tale_25 rfl (v := 1) (by decide) (by decide) ?_
      refine v_goto C 6 dL_tale_28 (by decide) ?_
      exact v_wk (ih _ _ hsh) (wk_of (And.intro rfl (And.intro rfl (And.intro rfl trivial))))
set_option maxRecDepth 100000 in
set_option maxHeartbeats 4000000 in
theorem lp_L_tale_33 {p : Program} {l : Launch} {e : Env} {s : State} {m : MethodId} {args : Array Value} {below : List Frame} {meth : Method} {c : Code} {D : va_G} {t : gT} {ad : Nat → Nat} (C : gC p s m args meth c cL_tale RL 4 (some .long) (isW ad) D t ad) (hI : gI ad) {G : gG} {r0 : Int64} {kt66 : Int64 → Option (Int64)} (hk66 : ∀ (w1 : Int64) , kt66 w1 = some r0 → V p l e (rM 6 133) s m args below meth c (isW ad) D t ad 0 0 4 (Ql below D t ad args s r0 G) G 66 [none, some (.long w1), none, none] []) : ∀ (n : Nat) (w1 : Int64) (l3 : Int32) , sh_L_tale_33 G kt66 n w1 l3 = some r0 → V p l e (rM 6 133) s m args below meth c (isW ad) D t ad 0 0 4 (Ql below D t ad args s r0 G) G 33 [some (.ref (ad 70)), some (.long w1), none, some (.int l3)] [] := by
  intro n
  induction n with
  | zero => intro w1 l3 hsh; rw [sh_L_tale_33.eq_1] at hsh; cases hsh
  | succ n ih =>
    intro w1 l3 hsh
    rw [sh_L_tale_33.eq_2] at hsh
    refine v_iloadn C dL_tale_33 rfl ?_
    refine v_sipush C dL_tale_34 (v := 160) (by decide) ?_
    refine v_ic_ge C 66 dL_tale_37 (by decide) (fun hc => ?_) (fun hc => ?_)
    · replace hsh := ite_p hc hsh
      exact v_wk (hk66 _ hsh) (wk_of (And.intro rfl trivial))
    · replace hsh := ite_n hc hsh
      refine v_ldc2 C k416 dL_tale_40 ?_
      refine v_lloadn C dL_tale_43 rfl ?_
      refine v_lmul C dL_tale_44 ?_
      refine v_aloadn C dL_tale_45 rfl ?_
      refine v_iloadn C dL_tale_46 rfl ?_
      refine v_bipush C dL_tale_47 (v := 10) (by decide) ?_
      refine v_idiv C dL_tale_49 (by decide) ?_
      refine v_iloadn C dL_tale_50 rfl ?_
      refine v_bipush C dL_tale_51 (v := 10) (by decide) ?_
      refine v_irem C dL_tale_53 (by decide) ?_
      obtain ⟨r4, e3, hsh⟩ := obp_e hsh
      refine v_callI (nP := 2) (k := 70) C (by decide) rfl rfl (c_X3_lamp l D t ad hI  e3) k251 k248 k249 k250 k1 yo_X3_lamp ⟨Nat.le_of_ble_eq_true rfl, Nat.le_of_ble_eq_true rfl, rfl, rfl, Nat.zero_le _, Nat.zero_le _⟩ rfl rfl (Nat.le_of_ble_eq_true rfl) dL_tale_54 ?_
      refine v_i2l C dL_tale_57 ?_
      refine v_ladd C dL_tale_58 ?_
      refine v_lstoren C dL_tale_59 (by decide) ?_
      refine v_iinc C dL_tale_60 rfl (v := 1) (by decide) (by decide) ?_
      refine v_goto C 33 dL_tale_63 (by decide) ?_
      exact v_wk (ih _ _ hsh) (wk_of (And.intro rfl (And.intro rfl (And.intro rfl trivial))))
set_option maxRecDepth 100000 in
set_option maxHeartbeats 4000000 in
theorem c_L_tale (l : Launch) (D : va_G) (t : gT) (ad : Nat → Nat) (hI : gI ad) {G : gG} {r0 : Int64} (hsh : sh_L_tale G = some r0) : Ml l D t ad yL_tale cL_tale 4 (rM 6 133) [.ref (ad 70)] G r0 := by
  refine m_go hI RL rfl (by decide +kernel) ⟨rfl, rfl⟩ (Nat.le_of_ble_eq_true rfl) rfl [some (.ref (ad 70)), none, none, none] rfl (fun p e s m args below meth c C => ?_)
  unfold sh_L_tale at hsh
  refine v_ldc2 C k415 dL_tale_0 ?_
  refine v_lstoren C dL_tale_3 (by decide) ?_
  refine v_iconst C dL_tale_4 (v := 0) (by decide) ?_
  refine v_istoren C dL_tale_5 (by decide) ?_
  refine v_wk (lp_L_tale_6 C hI (fun w1 hsh => ?_) FU _ _ hsh) (wk_of (And.intro rfl (And.intro rfl (And.intro rfl trivial))))
  refine v_iconst C dL_tale_31 (v := 0) (by decide) ?_
  refine v_istoren C dL_tale_32 (by decide) ?_
  refine v_wk (lp_L_tale_33 C hI (fun w1 hsh => ?_) FU _ _ hsh) (wk_of (And.intro rfl (And.intro rfl (And.intro rfl trivial))))
  refine v_lloadn C dL_tale_66 rfl ?_
  obtain rfl := so_1 hsh
  exact v_lret C dL_tale_67
theorem yo_L_tale : yOk yL_tale 1 := ⟨by decide, by decide, by decide +kernel⟩

def sh_L_passSo_j47 (l1 : Int32) (l2 : Int32) (l3 : Int32) (l4 : Int32) (w5 : Int64) (x0 : Int32) (G : gG) : Option (Int32 × gG) := (if x0 = (0 : Int32) then some ((0 : Int32), G) else (obi (sh_X3_pass (l1 + l2) G) fun r10 G11 => (if r10 = (l3 + l4) then (obl (sh_L_tale G11) fun r13 => (if (lg_cmp r13 w5) = (0 : Int32) then some ((1 : Int32), G11) else some ((0 : Int32), G11))) else some ((0 : Int32), G11))))
def sh_L_passSo_j46 (l1 : Int32) (l2 : Int32) (l3 : Int32) (l4 : Int32) (w5 : Int64) (G : gG) : Option (Int32 × gG) := (sh_L_passSo_j47 l1 l2 l3 l4 w5 (0 : Int32) G)
def sh_L_passSo (l1 : Int32) (l2 : Int32) (G : gG) : Option (Int32 × gG) := (obi (sh_X3_pass l1 G) fun r2 G3 => (obi (sh_X3_pass l2 G3) fun r5 G6 => (obl (sh_L_tale G6) fun r8 => (if r2 < (0 : Int32) then (sh_L_passSo_j46 l1 l2 r2 r5 r8 G6) else (if r5 < (0 : Int32) then (sh_L_passSo_j46 l1 l2 r2 r5 r8 G6) else (obi (sh_X3_undo G6) fun r15 G16 => (if r15 < (0 : Int32) then (sh_L_passSo_j46 l1 l2 r2 r5 r8 G16) else (obi (sh_X3_undo G16) fun r18 G19 => (if r18 < (0 : Int32) then (sh_L_passSo_j46 l1 l2 r2 r5 r8 G19) else (sh_L_passSo_j47 l1 l2 r2 r5 r8 (1 : Int32) G19))))))))))
set_option maxRecDepth 100000 in
set_option maxHeartbeats 4000000 in
theorem c_L_passSo (l : Launch) (D : va_G) (t : gT) (ad : Nat → Nat) (hI : gI ad) {l1 : Int32} {l2 : Int32} {G : gG} {r0 : Int32} {G0 : gG} (hsh : sh_L_passSo l1 l2 G = some (r0, G0)) : Mi l D t ad yL_passSo cL_passSo 8 (some .boolean) (rM 7 156) [.ref (ad 70), .int l1, .int l2] G r0 G0 := by
  refine m_go hI RL rfl (by decide +kernel) ⟨rfl, rfl⟩ (Nat.le_of_ble_eq_true rfl) rfl [some (.ref (ad 70)), some (.int l1), some (.int l2), none, none, none, none, none] rfl (fun p e s m args below meth c C => ?_)
  unfold sh_L_passSo at hsh
  have hj47 : ∀ (l1 : Int32) (l2 : Int32) (l3 : Int32) (l4 : Int32) (w5 : Int64) (x0 : Int32) (G : gG) , sh_L_passSo_j47 l1 l2 l3 l4 w5 x0 G = some (r0, G0) → V p l e (rM 7 156) s m args below meth c (isW ad) D t ad 0 0 8 (Qi below D t ad args s r0 G0) G 47 [some (.ref (ad 70)), some (.int l1), some (.int l2), some (.int l3), some (.int l4), some (.long w5), none, none] [.int x0] := by
    intro l1 l2 l3 l4 w5 x0 G hsh
    unfold sh_L_passSo_j47 at hsh
    refine v_istore C dL_passSo_47 (by decide) ?_
    refine v_iload C dL_passSo_49 rfl ?_
    refine v_if_eq C 82 dL_passSo_51 (by decide) (fun hc => ?_) (fun hc => ?_)
    · replace hsh := ite_p hc hsh
      refine v_iconst C dL_passSo_82 (v := 0) (by decide) ?_
      obtain ⟨rfl, rfl⟩ := so_i hsh
      exact v_zret C (Or.inl rfl) dL_passSo_83
    · replace hsh := ite_n hc hsh
      refine v_aloadn C dL_passSo_54 rfl ?_
      refine v_iloadn C dL_passSo_55 rfl ?_
      refine v_iloadn C dL_passSo_56 rfl ?_
      refine v_iadd C dL_passSo_57 ?_
      obtain ⟨r10, G11, e9, hsh⟩ := obi_e hsh
      refine v_callI (nP := 1) (k := 70) C (by decide) rfl rfl (c_X3_pass l D t ad hI  e9) k356 k353 k354 k355 k1 yo_X3_pass ⟨Nat.le_of_ble_eq_true rfl, Nat.le_of_ble_eq_true rfl, rfl, rfl, Nat.zero_le _, Nat.zero_le _⟩ rfl rfl (Nat.le_of_ble_eq_true rfl) dL_passSo_58 ?_
      refine v_iloadn C dL_passSo_61 rfl ?_
      refine v_iload C dL_passSo_62 rfl ?_
      refine v_iadd C dL_passSo_64 ?_
      refine v_ic_ne C 82 dL_passSo_65 (by decide) (fun hc => ?_) (fun hc => ?_)
      · replace hsh := ite_n hc hsh
        refine v_iconst C dL_passSo_82 (v := 0) (by decide) ?_
        obtain ⟨rfl, rfl⟩ := so_i hsh
        exact v_zret C (Or.inl rfl) dL_passSo_83
      · replace hsh := ite_p hc hsh
        refine v_aloadn C dL_passSo_68 rfl ?_
        obtain ⟨r13, e12, hsh⟩ := obl_e hsh
        refine v_callSl (nP := 1) C (c_L_tale l D t ad hI  e12) k414 k412 k413 k0 yo_L_tale ⟨Nat.le_of_ble_eq_true rfl, Nat.le_of_ble_eq_true rfl, rfl, rfl, Nat.zero_le _, Nat.zero_le _⟩ rfl rfl (Nat.le_of_ble_eq_true rfl) dL_passSo_69 ?_
        refine v_lload C dL_passSo_72 rfl ?_
        refine v_lcmp C dL_passSo_74 ?_
        refine v_if_ne C 82 dL_passSo_75 (by decide) (fun hc => ?_) (fun hc => ?_)
        · replace hsh := ite_n hc hsh
          refine v_iconst C dL_passSo_82 (v := 0) (by decide) ?_
          obtain ⟨rfl, rfl⟩ := so_i hsh
          exact v_zret C (Or.inl rfl) dL_passSo_83
        · replace hsh := ite_p hc hsh
          refine v_iconst C dL_passSo_78 (v := 1) (by decide) ?_
          refine v_goto C 83 dL_passSo_79 (by decide) ?_
          obtain ⟨rfl, rfl⟩ := so_i hsh
          exact v_zret C (Or.inr rfl) dL_passSo_83
  have hj46 : ∀ (l1 : Int32) (l2 : Int32) (l3 : Int32) (l4 : Int32) (w5 : Int64) (G : gG) , sh_L_passSo_j46 l1 l2 l3 l4 w5 G = some (r0, G0) → V p l e (rM 7 156) s m args below meth c (isW ad) D t ad 0 0 8 (Qi below D t ad args s r0 G0) G 46 [some (.ref (ad 70)), some (.int l1), some (.int l2), some (.int l3), some (.int l4), some (.long w5), none, none] [] := by
    intro l1 l2 l3 l4 w5 G hsh
    unfold sh_L_passSo_j46 at hsh
    refine v_iconst C dL_passSo_46 (v := 0) (by decide) ?_
    exact v_wk (hj47 _ _ _ _ _ _ _ hsh) (wk_of (And.intro rfl (And.intro rfl (And.intro rfl (And.intro rfl (And.intro rfl (And.intro rfl trivial)))))))
  refine v_aloadn C dL_passSo_0 rfl ?_
  refine v_iloadn C dL_passSo_1 rfl ?_
  obtain ⟨r2, G3, e1, hsh⟩ := obi_e hsh
  refine v_callI (nP := 1) (k := 70) C (by decide) rfl rfl (c_X3_pass l D t ad hI  e1) k356 k353 k354 k355 k1 yo_X3_pass ⟨Nat.le_of_ble_eq_true rfl, Nat.le_of_ble_eq_true rfl, rfl, rfl, Nat.zero_le _, Nat.zero_le _⟩ rfl rfl (Nat.le_of_ble_eq_true rfl) dL_passSo_2 ?_
  refine v_istoren C dL_passSo_5 (by decide) ?_
  refine v_aloadn C dL_passSo_6 rfl ?_
  refine v_iloadn C dL_passSo_7 rfl ?_
  obtain ⟨r5, G6, e4, hsh⟩ := obi_e hsh
  refine v_callI (nP := 1) (k := 70) C (by decide) rfl rfl (c_X3_pass l D t ad hI  e4) k356 k353 k354 k355 k1 yo_X3_pass ⟨Nat.le_of_ble_eq_true rfl, Nat.le_of_ble_eq_true rfl, rfl, rfl, Nat.zero_le _, Nat.zero_le _⟩ rfl rfl (Nat.le_of_ble_eq_true rfl) dL_passSo_8 ?_
  refine v_istore C dL_passSo_11 (by decide) ?_
  refine v_aloadn C dL_passSo_13 rfl ?_
  obtain ⟨r8, e7, hsh⟩ := obl_e hsh
  refine v_callSl (nP := 1) C (c_L_tale l D t ad hI  e7) k414 k412 k413 k0 yo_L_tale ⟨Nat.le_of_ble_eq_true rfl, Nat.le_of_ble_eq_true rfl, rfl, rfl, Nat.zero_le _, Nat.zero_le _⟩ rfl rfl (Nat.le_of_ble_eq_true rfl) dL_passSo_14 ?_
  refine v_lstore C dL_passSo_17 (by decide) ?_
  refine v_iloadn C dL_passSo_19 rfl ?_
  refine v_if_lt C 46 dL_passSo_20 (by decide) (fun hc => ?_) (fun hc => ?_)
  · replace hsh := ite_p hc hsh
    exact v_wk (hj46 _ _ _ _ _ _ hsh) (wk_of (And.intro rfl (And.intro rfl (And.intro rfl (And.intro rfl (And.intro rfl (And.intro rfl trivial)))))))
  · replace hsh := ite_n hc hsh
    refine v_iload C dL_passSo_23 rfl ?_
    refine v_if_lt C 46 dL_passSo_25 (by decide) (fun hc => ?_) (fun hc => ?_)
    · replace hsh := ite_p hc hsh
      exact v_wk (hj46 _ _ _ _ _ _ hsh) (wk_of (And.intro rfl (And.intro rfl (And.intro rfl (And.intro rfl (And.intro rfl (And.intro rfl trivial)))))))
    · replace hsh := ite_n hc hsh
      refine v_aloadn C dL_passSo_28 rfl ?_
      obtain ⟨r15, G16, e14, hsh⟩ := obi_e hsh
      refine v_callI (nP := 0) (k := 70) C (by decide) rfl rfl (c_X3_undo l D t ad hI  e14) k378 k375 k376 k377 k1 yo_X3_undo ⟨Nat.le_of_ble_eq_true rfl, Nat.le_of_ble_eq_true rfl, rfl, rfl, Nat.zero_le _, Nat.zero_le _⟩ rfl rfl (Nat.le_of_ble_eq_true rfl) dL_passSo_29 ?_
      refine v_if_lt C 46 dL_passSo_32 (by decide) (fun hc => ?_) (fun hc => ?_)
      · replace hsh := ite_p hc hsh
        exact v_wk (hj46 _ _ _ _ _ _ hsh) (wk_of (And.intro rfl (And.intro rfl (And.intro rfl (And.intro rfl (And.intro rfl (And.intro rfl trivial)))))))
      · replace hsh := ite_n hc hsh
        refine v_aloadn C dL_passSo_35 rfl ?_
        obtain ⟨r18, G19, e17, hsh⟩ := obi_e hsh
        refine v_callI (nP := 0) (k := 70) C (by decide) rfl rfl (c_X3_undo l D t ad hI  e17) k378 k375 k376 k377 k1 yo_X3_undo ⟨Nat.le_of_ble_eq_true rfl, Nat.le_of_ble_eq_true rfl, rfl, rfl, Nat.zero_le _, Nat.zero_le _⟩ rfl rfl (Nat.le_of_ble_eq_true rfl) dL_passSo_36 ?_
        refine v_if_lt C 46 dL_passSo_39 (by decide) (fun hc => ?_) (fun hc => ?_)
        · replace hsh := ite_p hc hsh
          exact v_wk (hj46 _ _ _ _ _ _ hsh) (wk_of (And.intro rfl (And.intro rfl (And.intro rfl (And.intro rfl (And.intro rfl (And.intro rfl trivial)))))))
        · replace hsh := ite_n hc hsh
          refine v_iconst C dL_passSo_42 (v := 1) (by decide) ?_
          refine v_goto C 47 dL_passSo_43 (by decide) ?_
          exact v_wk (hj47 _ _ _ _ _ _ _ hsh) (wk_of (And.intro rfl (And.intro rfl (And.intro rfl (And.intro rfl (And.intro rfl (And.intro rfl trivial)))))))
theorem yo_L_passSo : yOk yL_passSo 3 := ⟨by decide, by decide, by decide +kernel⟩
