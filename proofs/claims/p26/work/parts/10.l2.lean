def sh_L_act_206  (kt244 : Int32 → Int32 → Int64 → Int32 → gG → Option (Int32 × gG)) : Nat → Int32 → Int32 → Int64 → Int32 → Int32 → gG → Option (Int32 × gG)
  | 0, _, _, _, _, _, _ => none
  | n + 1, l2, l3, w5, l7, l8, G => (if (16 : Int32) ≤ l8 then kt244 l2 l3 w5 l7 G else (obp (sh_L_isThere l3 G) fun r44 => (if r44 = (0 : Int32) then kt244 l2 l3 w5 l7 G else (obp (sh_X3_lamp l3 (6 : Int32) G) fun r46 => (bni (l7 + ((r46 >>> (l8 &&& 31)) &&& (1 : Int32))) fun z47 => sh_L_act_206 kt244 n l2 l3 w5 z47 (l8 + 1) G)))))
def sh_L_act_j244 (l2 : Int32) (l3 : Int32) (w5 : Int64) (l7 : Int32) (G : gG) : Option (Int32 × gG) := (obp (sh_L_isThere l3 G) fun r50 => (if r50 = (0 : Int32) then (obi (sh_X3_goAway l3 G) fun r52 G53 => (if r52 = (-1 : Int32) then (obl (sh_L_tale G53) fun r55 => (if (lg_cmp r55 w5) = (0 : Int32) then some ((1 : Int32), G53) else some ((0 : Int32), G53))) else some ((0 : Int32), G53))) else (obi (sh_X3_goAway l3 G) fun r57 G58 => (if r57 = l7 then (obp (sh_L_isThere l3 G58) fun r60 => (if r60 = (0 : Int32) then (obp (sh_L_low (l2 >>> ((4 : Int32) &&& 31)) (3 : Int32)) fun r62 => (if r62 = (0 : Int32) then some ((1 : Int32), G58) else (obi (sh_X3_undo G58) fun r64 G65 => (if r64 < (0 : Int32) then some ((0 : Int32), G65) else (obl (sh_L_tale G65) fun r67 => (if (lg_cmp r67 w5) = (0 : Int32) then some ((1 : Int32), G65) else some ((0 : Int32), G65))))))) else some ((0 : Int32), G58))) else some ((0 : Int32), G58)))))
def sh_L_act_j395 (l3 : Int32) (l5 : Int32) (G : gG) : Option (Int32 × gG) := (obp (sh_L_isOn l3 G) fun r76 => (if r76 = l5 then some ((1 : Int32), G) else some ((0 : Int32), G)))
def sh_L_act_j345 (l3 : Int32) (x0 : Int32) (G : gG) : Option (Int32 × gG) := (obi (sh_X3_turn l3 x0 G) fun r71 G72 => (obp (sh_L_isThere l3 G72) fun r74 => (if r74 = (0 : Int32) then (if r71 = (-1 : Int32) then some ((1 : Int32), G72) else some ((0 : Int32), G72)) else (if r71 = (-5 : Int32) then (sh_L_act_j395 l3 x0 G72) else (obp (sh_X3_count (2 : Int32) G72) fun r78 => (if r71 = r78 then (sh_L_act_j395 l3 x0 G72) else some ((0 : Int32), G72)))))))
def sh_L_act_j441 (x1 : Int32) (x2 : Int32) (x3 : Int32) (G : gG) : Option (Int32 × gG) := (obi (sh_X3_link x1 x2 x3 G) fun r85 G86 => (if r85 < (-5 : Int32) then some ((0 : Int32), G86) else some ((1 : Int32), G86)))
def sh_L_act_j642 (l5 : Int32) (l6 : Int32) (x0 : Int32) (x1 : Int32) (G : gG) : Option (Int32 × gG) := (if x0 = x1 then (obp (sh_X3_count ((9 : Int32) + l5) G) fun r128 => (if r128 = l6 then some ((1 : Int32), G) else some ((0 : Int32), G))) else some ((0 : Int32), G))
def sh_L_act_j607 (l5 : Int32) (x0 : Int32) (G : gG) : Option (Int32 × gG) := (obp (sh_X3_count ((9 : Int32) + l5) G) fun r123 => (obi (sh_X3_set l5 x0 G) fun r125 G126 => (if r123 = x0 then (sh_L_act_j642 l5 x0 r125 (-5 : Int32) G126) else (sh_L_act_j642 l5 x0 r125 r123 G126))))
def sh_L_act (l1 : Int32) (l2 : Int32) (G : gG) : Option (Int32 × gG) := (obp (sh_L_low l2 (6 : Int32)) fun r2 => (obp (sh_L_low (l2 >>> ((3 : Int32) &&& 31)) (6 : Int32)) fun r4 => (obp (sh_L_low l1 (15 : Int32)) fun r6 => (if r6 = (0 : Int32) then (obp (sh_X3_count (1 : Int32) G) fun r8 => (obp (sh_X3_count (9 : Int32) G) fun r10 => (obp (sh_L_low (l2 >>> ((2 : Int32) &&& 31)) r10) fun r12 => (obp (sh_L_low (l2 >>> ((9 : Int32) &&& 31)) (101 : Int32)) fun r14 => (obi (sh_X3_come r12 ((50 : Int32) + r14) G) fun r16 G17 => (if r8 = (16 : Int32) then (if r16 = (-3 : Int32) then some ((1 : Int32), G17) else some ((0 : Int32), G17)) else (if r16 < (0 : Int32) then some ((0 : Int32), G17) else (obp (sh_X3_count (1 : Int32) G17) fun r19 => (if r19 = (r8 + (1 : Int32)) then (obp (sh_L_isOn r16 G17) fun r21 => (if r21 = (0 : Int32) then some ((0 : Int32), G17) else (obp (sh_X3_lamp r16 (6 : Int32) G17) fun r23 => (if r23 = (0 : Int32) then some ((1 : Int32), G17) else some ((0 : Int32), G17))))) else some ((0 : Int32), G17)))))))))) else (if r6 = (1 : Int32) then (obp (sh_X3_count (1 : Int32) G) fun r25 => (obp (sh_X3_count (9 : Int32) G) fun r27 => (obp (sh_L_low (l2 >>> ((2 : Int32) &&& 31)) r27) fun r29 => (obp (sh_L_low (l2 >>> ((9 : Int32) &&& 31)) (101 : Int32)) fun r31 => (obi (sh_X3_come r29 ((50 : Int32) + r31) G) fun r33 G34 => (if r25 = (16 : Int32) then (if r33 = (-3 : Int32) then some ((1 : Int32), G34) else some ((0 : Int32), G34)) else (if r33 < (0 : Int32) then some ((0 : Int32), G34) else (obp (sh_X3_count (1 : Int32) G34) fun r36 => (if r36 = (r25 + (1 : Int32)) then (obp (sh_L_isOn r33 G34) fun r38 => (if r38 = (0 : Int32) then some ((0 : Int32), G34) else (obp (sh_X3_lamp r33 (6 : Int32) G34) fun r40 => (if r40 = (0 : Int32) then some ((1 : Int32), G34) else some ((0 : Int32), G34))))) else some ((0 : Int32), G34)))))))))) else (if r6 = (2 : Int32) then (obl (sh_L_tale G) fun r42 => (sh_L_act_206 (fun l2 l3 w5 l7 G => (sh_L_act_j244 l2 l3 w5 l7 G)) FU l2 r2 r42 (0 : Int32) (0 : Int32) G)) else (if r6 = (3 : Int32) then (obp (sh_L_low (l2 >>> ((4 : Int32) &&& 31)) (3 : Int32)) fun r69 => (if r69 ≤ (0 : Int32) then (sh_L_act_j345 r2 (0 : Int32) G) else (sh_L_act_j345 r2 (1 : Int32) G))) else (if r6 = (4 : Int32) then (obi (sh_L_linkedSo r2 r4 G) fun r80 G81 => (if r80 = (0 : Int32) then some ((0 : Int32), G81) else (obp (sh_L_low (l2 >>> ((6 : Int32) &&& 31)) (4 : Int32)) fun r83 => (if r83 ≤ (0 : Int32) then (sh_L_act_j441 r2 r4 (0 : Int32) G81) else (sh_L_act_j441 r2 r4 (1 : Int32) G81))))) else (if r6 = (5 : Int32) then (obi (sh_L_linkedSo r2 r4 G) fun r88 G89 => (if r88 = (0 : Int32) then some ((0 : Int32), G89) else (obp (sh_L_low (l2 >>> ((6 : Int32) &&& 31)) (4 : Int32)) fun r91 => (if r91 ≤ (0 : Int32) then (sh_L_act_j441 r2 r4 (0 : Int32) G89) else (sh_L_act_j441 r2 r4 (1 : Int32) G89))))) else (if r6 = (6 : Int32) then (obi (sh_X3_link r2 r4 (1 : Int32) G) fun r93 G94 => (if r93 < (-5 : Int32) then some ((0 : Int32), G94) else some ((1 : Int32), G94))) else (if r6 = (7 : Int32) then (obi (sh_X3_link r2 r4 (1 : Int32) G) fun r96 G97 => (if r96 < (-5 : Int32) then some ((0 : Int32), G97) else some ((1 : Int32), G97))) else (if r6 = (8 : Int32) then (obi (sh_X3_link r2 r4 (1 : Int32) G) fun r99 G100 => (if r99 < (-5 : Int32) then some ((0 : Int32), G100) else some ((1 : Int32), G100))) else (if r6 = (9 : Int32) then (obp (sh_X3_lamp r2 (0 : Int32) G) fun r102 => (obp (sh_X3_count (9 : Int32) G) fun r104 => (obp (sh_L_low (l2 >>> ((4 : Int32) &&& 31)) r104) fun r106 => (obi (sh_X3_tune r2 r106 (100 : Int32) G) fun r108 G109 => (if r108 = r102 then (if r102 < (0 : Int32) then some ((1 : Int32), G109) else (obp (sh_X3_lamp r2 (0 : Int32) G109) fun r111 => (obp (sh_X3_count (9 : Int32) G109) fun r113 => (obp (sh_L_low (l2 >>> ((4 : Int32) &&& 31)) r113) fun r115 => (if r111 = ((100 : Int32) * r115) then (obp (sh_X3_lamp r2 (1 : Int32) G109) fun r117 => (if r117 = (100 : Int32) then some ((1 : Int32), G109) else some ((0 : Int32), G109))) else some ((0 : Int32), G109)))))) else some ((0 : Int32), G109)))))) else (if r6 = (10 : Int32) then (obp (sh_L_low l2 (3 : Int32)) fun r119 => (if r119 = (0 : Int32) then (obp (sh_L_low (l2 >>> ((2 : Int32) &&& 31)) (60 : Int32)) fun r132 => (sh_L_act_j607 r119 ((10 : Int32) + r132) G)) else (if r119 = (1 : Int32) then (obp (sh_L_low (l2 >>> ((2 : Int32) &&& 31)) (101 : Int32)) fun r130 => (sh_L_act_j607 r119 r130 G)) else (obp (sh_L_low (l2 >>> ((2 : Int32) &&& 31)) (6 : Int32)) fun r121 => (sh_L_act_j607 r119 r121 G))))) else (if r6 = (11 : Int32) then (obp (sh_L_low l2 (60 : Int32)) fun r134 => (obp (sh_L_low (l2 >>> ((7 : Int32) &&& 31)) (60 : Int32)) fun r136 => (obi (sh_L_passSo ((1 : Int32) + r134) ((1 : Int32) + r136) G) fun r138 G139 => (if nbB r138 = true then some (r138, G139) else none)))) else (if r6 = (12 : Int32) then (obi (sh_L_togetherSo G) fun r141 G142 => (if r141 = (0 : Int32) then some ((0 : Int32), G142) else (obi (sh_L_nextSo G142) fun r144 G145 => (if r144 = (0 : Int32) then some ((0 : Int32), G145) else some ((1 : Int32), G145))))) else (if r6 = (13 : Int32) then (obp (sh_L_low l2 (4 : Int32)) fun r147 => (if (0 : Int32) < r147 then some ((1 : Int32), G) else (obi (sh_L_bestSo G) fun r149 G150 => (if r149 = (0 : Int32) then some ((0 : Int32), G150) else some ((1 : Int32), G150))))) else (obi (sh_L_twins l2 G) fun r152 G153 => (if nbB r152 = true then some (r152, G153) else none)))))))))))))))))))
set_option maxRecDepth 100000 in
set_option maxHeartbeats 4000000 in
theorem lp_L_act_206 {p : Program} {l : Launch} {e : Env} {s : State} {m : MethodId} {args : Array Value} {below : List Frame} {meth : Method} {c : Code} {D : va_G} {t : gT} {ad : Nat → Nat} (C : gC p s m args meth c cL_act RL 9 (some .boolean) (isW ad) D t ad) (hI : gI ad) {r0 : Int32} {G0 : gG} {kt244 : Int32 → Int32 → Int64 → Int32 → gG → Option (Int32 × gG)} (hk244 : ∀ (l2 : Int32) (l3 : Int32) (w5 : Int64) (l7 : Int32) (G : gG) , kt244 l2 l3 w5 l7 G = some (r0, G0) → V p l e (rM 8 192) s m args below meth c (isW ad) D t ad 0 0 9 (Qi below D t ad args s r0 G0) G 244 [some (.ref (ad 70)), none, some (.int l2), some (.int l3), none, some (.long w5), none, some (.int l7), none] []) : ∀ (n : Nat) (l2 : Int32) (l3 : Int32) (w5 : Int64) (l7 : Int32) (l8 : Int32) (G : gG) , sh_L_act_206 kt244 n l2 l3 w5 l7 l8 G = some (r0, G0) → V p l e (rM 8 192) s m args below meth c (isW ad) D t ad 0 0 9 (Qi below D t ad args s r0 G0) G 206 [some (.ref (ad 70)), none, some (.int l2), some (.int l3), none, some (.long w5), none, some (.int l7), some (.int l8)] [] := by
  intro n
  induction n with
  | zero => intro l2 l3 w5 l7 l8 G hsh; rw [sh_L_act_206.eq_1] at hsh; cases hsh
  | succ n ih =>
    intro l2 l3 w5 l7 l8 G hsh
    rw [sh_L_act_206.eq_2] at hsh
    refine v_iload C dL_act_206 rfl ?_
    refine v_bipush C dL_act_208 (v := 16) (by decide) ?_
    refine v_ic_ge C 244 dL_act_210 (by decide) (fun hc => ?_) (fun hc => ?_)
    · replace hsh := ite_p hc hsh
      exact v_wk (hk244 _ _ _ _ _ hsh) (wk_of (And.intro rfl (And.intro rfl (And.intro rfl (And.intro rfl (And.intro rfl trivial))))))
    · replace hsh := ite_n hc hsh
      refine v_aloadn C dL_act_213 rfl ?_
      refine v_iloadn C dL_act_214 rfl ?_
      obtain ⟨r44, e43, hsh⟩ := obp_e hsh
      refine v_callS (nP := 2) C (c_L_isThere l D t ad hI  e43) k247 k245 k246 k0 yo_L_isThere ⟨Nat.le_of_ble_eq_true rfl, Nat.le_of_ble_eq_true rfl, rfl, rfl, Nat.zero_le _, Nat.zero_le _⟩ rfl rfl (Nat.le_of_ble_eq_true rfl) dL_act_215 ?_
      refine v_if_eq C 244 dL_act_218 (by decide) (fun hc => ?_) (fun hc => ?_)
      · replace hsh := ite_p hc hsh
        exact v_wk (hk244 _ _ _ _ _ hsh) (wk_of (And.intro rfl (And.intro rfl (And.intro rfl (And.intro rfl (And.intro rfl trivial))))))
      · replace hsh := ite_n hc hsh
        refine v_iload C dL_act_221 rfl ?_
        refine v_aloadn C dL_act_223 rfl ?_
        refine v_iloadn C dL_act_224 rfl ?_
        refine v_bipush C dL_act_225 (v := 6) (by decide) ?_
        obtain ⟨r46, e45, hsh⟩ := obp_e hsh
        refine v_callI (nP := 2) (k := 70) C (by decide) rfl rfl (c_X3_lamp l D t ad hI  e45) k251 k248 k249 k250 k1 yo_X3_lamp ⟨Nat.le_of_ble_eq_true rfl, Nat.le_of_ble_eq_true rfl, rfl, rfl, Nat.zero_le _, Nat.zero_le _⟩ rfl rfl (Nat.le_of_ble_eq_true rfl) dL_act_227 ?_
        refine v_iload C dL_act_230 rfl ?_
        refine v_ishr C dL_act_232 ?_
        refine v_iconst C dL_act_233 (v := 1) (by decide) ?_
        refine v_iand C dL_act_234 ?_
        refine v_iadd C dL_act_235 ?_
        obtain ⟨z47, e48, hsh⟩ := bni_e hsh
        refine v_bi e48 ?_
        refine v_istore C dL_act_236 (by decide) ?_
        refine v_iinc C dL_act_238 rfl (v := 1) (by decide) (by decide) ?_
        refine v_goto C 206 dL_act_241 (by decide) ?_
        exact v_wk (ih _ _ _ _ _ _ hsh) (wk_of (And.intro rfl (And.intro rfl (And.intro rfl (And.intro rfl (And.intro rfl (And.intro rfl trivial)))))))
set_option maxRecDepth 100000 in
set_option maxHeartbeats 4000000 in
theorem c_L_act (l : Launch) (D : va_G) (t : gT) (ad : Nat → Nat) (hI : gI ad) {l1 : Int32} {l2 : Int32} {G : gG} {r0 : Int32} {G0 : gG} (hsh : sh_L_act l1 l2 G = some (r0, G0)) : Mi l D t ad yL_act cL_act 9 (some .boolean) (rM 8 192) [.ref (ad 70), .int l1, .int l2] G r0 G0 := by
  refine m_go hI RL rfl (by decide +kernel) ⟨rfl, rfl⟩ (Nat.le_of_ble_eq_true rfl) rfl [some (.ref (ad 70)), some (.int l1), some (.int l2), none, none, none, none, none, none] rfl (fun p e s m args below meth c C => ?_)
  unfold sh_L_act at hsh
  have hj244 : ∀ (l2 : Int32) (l3 : Int32) (w5 : Int64) (l7 : Int32) (G : gG) , sh_L_act_j244 l2 l3 w5 l7 G = some (r0, G0) → V p l e (rM 8 192) s m args below meth c (isW ad) D t ad 0 0 9 (Qi below D t ad args s r0 G0) G 244 [some (.ref (ad 70)), none, some (.int l2), some (.int l3), none, some (.long w5), none, some (.int l7), none] [] := by
    intro l2 l3 w5 l7 G hsh
    unfold sh_L_act_j244 at hsh
    refine v_aloadn C dL_act_244 rfl ?_
    refine v_iloadn C dL_act_245 rfl ?_
    obtain ⟨r50, e49, hsh⟩ := obp_e hsh
    refine v_callS (nP := 2) C (c_L_isThere l D t ad hI  e49) k247 k245 k246 k0 yo_L_isThere ⟨Nat.le_of_ble_eq_true rfl, Nat.le_of_ble_eq_true rfl, rfl, rfl, Nat.zero_le _, Nat.zero_le _⟩ rfl rfl (Nat.le_of_ble_eq_true rfl) dL_act_246 ?_
    refine v_if_eq C 305 dL_act_249 (by decide) (fun hc => ?_) (fun hc => ?_)
    · replace hsh := ite_p hc hsh
      refine v_aloadn C dL_act_305 rfl ?_
      refine v_iloadn C dL_act_306 rfl ?_
      obtain ⟨r52, G53, e51, hsh⟩ := obi_e hsh
      refine v_callI (nP := 1) (k := 70) C (by decide) rfl rfl (c_X3_goAway l D t ad hI  e51) k420 k417 k418 k419 k1 yo_X3_goAway ⟨Nat.le_of_ble_eq_true rfl, Nat.le_of_ble_eq_true rfl, rfl, rfl, Nat.zero_le _, Nat.zero_le _⟩ rfl rfl (Nat.le_of_ble_eq_true rfl) dL_act_307 ?_
      refine v_iconst C dL_act_310 (v := -1) (by decide) ?_
      refine v_ic_ne C 328 dL_act_311 (by decide) (fun hc => ?_) (fun hc => ?_)
      · replace hsh := ite_n hc hsh
        refine v_iconst C dL_act_328 (v := 0) (by decide) ?_
        obtain ⟨rfl, rfl⟩ := so_i hsh
        exact v_zret C (Or.inl rfl) dL_act_329
      · replace hsh := ite_p hc hsh
        refine v_aloadn C dL_act_314 rfl ?_
        obtain ⟨r55, e54, hsh⟩ := obl_e hsh
        refine v_callSl (nP := 1) C (c_L_tale l D t ad hI  e54) k414 k412 k413 k0 yo_L_tale ⟨Nat.le_of_ble_eq_true rfl, Nat.le_of_ble_eq_true rfl, rfl, rfl, Nat.zero_le _, Nat.zero_le _⟩ rfl rfl (Nat.le_of_ble_eq_true rfl) dL_act_315 ?_
        refine v_lload C dL_act_318 rfl ?_
        refine v_lcmp C dL_act_320 ?_
        refine v_if_ne C 328 dL_act_321 (by decide) (fun hc => ?_) (fun hc => ?_)
        · replace hsh := ite_n hc hsh
          refine v_iconst C dL_act_328 (v := 0) (by decide) ?_
          obtain ⟨rfl, rfl⟩ := so_i hsh
          exact v_zret C (Or.inl rfl) dL_act_329
        · replace hsh := ite_p hc hsh
          refine v_iconst C dL_act_324 (v := 1) (by decide) ?_
          refine v_goto C 329 dL_act_325 (by decide) ?_
          obtain ⟨rfl, rfl⟩ := so_i hsh
          exact v_zret C (Or.inr rfl) dL_act_329
    · replace hsh := ite_n hc hsh
      refine v_aloadn C dL_act_252 rfl ?_
      refine v_iloadn C dL_act_253 rfl ?_
      obtain ⟨r57, G58, e56, hsh⟩ := obi_e hsh
      refine v_callI (nP := 1) (k := 70) C (by decide) rfl rfl (c_X3_goAway l D t ad hI  e56) k420 k417 k418 k419 k1 yo_X3_goAway ⟨Nat.le_of_ble_eq_true rfl, Nat.le_of_ble_eq_true rfl, rfl, rfl, Nat.zero_le _, Nat.zero_le _⟩ rfl rfl (Nat.le_of_ble_eq_true rfl) dL_act_254 ?_
      refine v_iload C dL_act_257 rfl ?_
      refine v_ic_ne C 301 dL_act_259 (by decide) (fun hc => ?_) (fun hc => ?_)
      · replace hsh := ite_n hc hsh
        refine v_iconst C dL_act_301 (v := 0) (by decide) ?_
        refine v_goto C 329 dL_act_302 (by decide) ?_
        obtain ⟨rfl, rfl⟩ := so_i hsh
        exact v_zret C (Or.inl rfl) dL_act_329
      · replace hsh := ite_p hc hsh
        refine v_aloadn C dL_act_262 rfl ?_
        refine v_iloadn C dL_act_263 rfl ?_
        obtain ⟨r60, e59, hsh⟩ := obp_e hsh
        refine v_callS (nP := 2) C (c_L_isThere l D t ad hI  e59) k247 k245 k246 k0 yo_L_isThere ⟨Nat.le_of_ble_eq_true rfl, Nat.le_of_ble_eq_true rfl, rfl, rfl, Nat.zero_le _, Nat.zero_le _⟩ rfl rfl (Nat.le_of_ble_eq_true rfl) dL_act_264 ?_
        refine v_if_ne C 301 dL_act_267 (by decide) (fun hc => ?_) (fun hc => ?_)
        · replace hsh := ite_n hc hsh
          refine v_iconst C dL_act_301 (v := 0) (by decide) ?_
          refine v_goto C 329 dL_act_302 (by decide) ?_
          obtain ⟨rfl, rfl⟩ := so_i hsh
          exact v_zret C (Or.inl rfl) dL_act_329
        · replace hsh := ite_p hc hsh
          refine v_iloadn C dL_act_270 rfl ?_
          refine v_iconst C dL_act_271 (v := 4) (by decide) ?_
          refine v_ishr C dL_act_272 ?_
          refine v_iconst C dL_act_273 (v := 3) (by decide) ?_
          obtain ⟨r62, e61, hsh⟩ := obp_e hsh
          refine v_callS (nP := 2) C (c_L_low l D t ad hI  (G := G58) e61) k391 k389 k390 k0 yo_L_low ⟨Nat.le_of_ble_eq_true rfl, Nat.le_of_ble_eq_true rfl, rfl, rfl, Nat.zero_le _, Nat.zero_le _⟩ rfl rfl (Nat.le_of_ble_eq_true rfl) dL_act_274 ?_
          refine v_if_eq C 297 dL_act_277 (by decide) (fun hc => ?_) (fun hc => ?_)
          · replace hsh := ite_p hc hsh
            refine v_iconst C dL_act_297 (v := 1) (by decide) ?_
            refine v_goto C 329 dL_act_298 (by decide) ?_
            obtain ⟨rfl, rfl⟩ := so_i hsh
            exact v_zret C (Or.inr rfl) dL_act_329
          · replace hsh := ite_n hc hsh
            refine v_aloadn C dL_act_280 rfl ?_
            obtain ⟨r64, G65, e63, hsh⟩ := obi_e hsh
            refine v_callI (nP := 0) (k := 70) C (by decide) rfl rfl (c_X3_undo l D t ad hI  e63) k378 k375 k376 k377 k1 yo_X3_undo ⟨Nat.le_of_ble_eq_true rfl, Nat.le_of_ble_eq_true rfl, rfl, rfl, Nat.zero_le _, Nat.zero_le _⟩ rfl rfl (Nat.le_of_ble_eq_true rfl) dL_act_281 ?_
            refine v_if_lt C 301 dL_act_284 (by decide) (fun hc => ?_) (fun hc => ?_)
            · replace hsh := ite_p hc hsh
              refine v_iconst C dL_act_301 (v := 0) (by decide) ?_
              refine v_goto C 329 dL_act_302 (by decide) ?_
              obtain ⟨rfl, rfl⟩ := so_i hsh
              exact v_zret C (Or.inl rfl) dL_act_329
            · replace hsh := ite_n hc hsh
              refine v_aloadn C dL_act_287 rfl ?_
              obtain ⟨r67, e66, hsh⟩ := obl_e hsh
              refine v_callSl (nP := 1) C (c_L_tale l D t ad hI  e66) k414 k412 k413 k0 yo_L_tale ⟨Nat.le_of_ble_eq_true rfl, Nat.le_of_ble_eq_true rfl, rfl, rfl, Nat.zero_le _, Nat.zero_le _⟩ rfl rfl (Nat.le_of_ble_eq_true rfl) dL_act_288 ?_
              refine v_lload C dL_act_291 rfl ?_
              refine v_lcmp C dL_act_293 ?_
              refine v_if_ne C 301 dL_act_294 (by decide) (fun hc => ?_) (fun hc => ?_)
              · replace hsh := ite_n hc hsh
                refine v_iconst C dL_act_301 (v := 0) (by decide) ?_
                refine v_goto C 329 dL_act_302 (by decide) ?_
                obtain ⟨rfl, rfl⟩ := so_i hsh
                exact v_zret C (Or.inl rfl) dL_act_329
              · replace hsh := ite_p hc hsh
                refine v_iconst C dL_act_297 (v := 1) (by decide) ?_
                refine v_goto C 329 dL_act_298 (by decide) ?_
                obtain ⟨rfl, rfl⟩ := so_i hsh
                exact v_zret C (Or.inr rfl) dL_act_329
  have hj395 : ∀ (l3 : Int32) (l5 : Int32) (G : gG) , sh_L_act_j395 l3 l5 G = some (r0, G0) → V p l e (rM 8 192) s m args below meth c (isW ad) D t ad 0 0 9 (Qi below D t ad args s r0 G0) G 395 [some (.ref (ad 70)), none, none, some (.int l3), none, some (.int l5), none, none, none] [] := by
    intro l3 l5 G hsh
    unfold sh_L_act_j395 at hsh
    refine v_aloadn C dL_act_395 rfl ?_
    refine v_iloadn C dL_act_396 rfl ?_
    obtain ⟨r76, e75, hsh⟩ := obp_e hsh
    refine v_callS (nP := 2) C (c_L_isOn l D t ad hI  e75) k274 k272 k273 k0 yo_L_isOn ⟨Nat.le_of_ble_eq_true rfl, Nat.le_of_ble_eq_true rfl, rfl, rfl, Nat.zero_le _, Nat.zero_le _⟩ rfl rfl (Nat.le_of_ble_eq_true rfl) dL_act_397 ?_
    refine v_iload C dL_act_400 rfl ?_
    refine v_ic_ne C 409 dL_act_402 (by decide) (fun hc => ?_) (fun hc => ?_)
    · replace hsh := ite_n hc hsh
      refine v_iconst C dL_act_409 (v := 0) (by decide) ?_
      obtain ⟨rfl, rfl⟩ := so_i hsh
      exact v_zret C (Or.inl rfl) dL_act_410
    · replace hsh := ite_p hc hsh
      refine v_iconst C dL_act_405 (v := 1) (by decide) ?_
      refine v_goto C 410 dL_act_406 (by decide) ?_
      obtain ⟨rfl, rfl⟩ := so_i hsh
      exact v_zret C (Or.inr rfl) dL_act_410
  have hj345 : ∀ (l3 : Int32) (x0 : Int32) (G : gG) , sh_L_act_j345 l3 x0 G = some (r0, G0) → V p l e (rM 8 192) s m args below meth c (isW ad) D t ad 0 0 9 (Qi below D t ad args s r0 G0) G 345 [some (.ref (ad 70)), none, none, some (.int l3), none, none, none, none, none] [.int x0] := by
    intro l3 x0 G hsh
    unfold sh_L_act_j345 at hsh
    refine v_istore C dL_act_345 (by decide) ?_
    refine v_aloadn C dL_act_347 rfl ?_
    refine v_iloadn C dL_act_348 rfl ?_
    refine v_iload C dL_act_349 rfl ?_
    obtain ⟨r71, G72, e70, hsh⟩ := obi_e hsh
    refine v_callI (nP := 2) (k := 70) C (by decide) rfl rfl (c_X3_turn l D t ad hI  e70) k428 k425 k426 k427 k1 yo_X3_turn ⟨Nat.le_of_ble_eq_true rfl, Nat.le_of_ble_eq_true rfl, rfl, rfl, Nat.zero_le _, Nat.zero_le _⟩ rfl rfl (Nat.le_of_ble_eq_true rfl) dL_act_351 ?_
    refine v_istore C dL_act_354 (by decide) ?_
    refine v_aloadn C dL_act_356 rfl ?_
    refine v_iloadn C dL_act_357 rfl ?_
    obtain ⟨r74, e73, hsh⟩ := obp_e hsh
    refine v_callS (nP := 2) C (c_L_isThere l D t ad hI  e73) k247 k245 k246 k0 yo_L_isThere ⟨Nat.le_of_ble_eq_true rfl, Nat.le_of_ble_eq_true rfl, rfl, rfl, Nat.zero_le _, Nat.zero_le _⟩ rfl rfl (Nat.le_of_ble_eq_true rfl) dL_act_358 ?_
    refine v_if_ne C 378 dL_act_361 (by decide) (fun hc => ?_) (fun hc => ?_)
    · replace hsh := ite_n hc hsh
      refine v_iload C dL_act_378 rfl ?_
      refine v_bipush C dL_act_380 (v := -5) (by decide) ?_
      refine v_ic_eq C 395 dL_act_382 (by decide) (fun hc => ?_) (fun hc => ?_)
      · replace hsh := ite_p hc hsh
        exact v_wk (hj395 _ _ _ hsh) (wk_of (And.intro rfl (And.intro rfl (And.intro rfl trivial))))
      · replace hsh := ite_n hc hsh
        refine v_iload C dL_act_385 rfl ?_
        refine v_aloadn C dL_act_387 rfl ?_
        refine v_iconst C dL_act_388 (v := 2) (by decide) ?_
        obtain ⟨r78, e77, hsh⟩ := obp_e hsh
        refine v_callI (nP := 1) (k := 70) C (by decide) rfl rfl (c_X3_count l D t ad hI  e77) k283 k280 k281 k282 k1 yo_X3_count ⟨Nat.le_of_ble_eq_true rfl, Nat.le_of_ble_eq_true rfl, rfl, rfl, Nat.zero_le _, Nat.zero_le _⟩ rfl rfl (Nat.le_of_ble_eq_true rfl) dL_act_389 ?_
        refine v_ic_ne C 409 dL_act_392 (by decide) (fun hc => ?_) (fun hc => ?_)
        · replace hsh := ite_n hc hsh
          refine v_iconst C dL_act_409 (v := 0) (by decide) ?_
          obtain ⟨rfl, rfl⟩ := so_i hsh
          exact v_zret C (Or.inl rfl) dL_act_410
        · replace hsh := ite_p hc hsh
          exact v_wk (hj395 _ _ _ hsh) (wk_of (And.intro rfl (And.intro rfl (And.intro rfl trivial))))
    · replace hsh := ite_p hc hsh
      refine v_iload C dL_act_364 rfl ?_
      refine v_iconst C dL_act_366 (v := -1) (by decide) ?_
      refine v_ic_ne C 374 dL_act_367 (by decide) (fun hc => ?_) (fun hc => ?_)
      · replace hsh := ite_n hc hsh
        refine v_iconst C dL_act_374 (v := 0) (by decide) ?_
        refine v_goto C 410 dL_act_375 (by decide) ?_
        obtain ⟨rfl, rfl⟩ := so_i hsh
        exact v_zret C (Or.inl rfl) dL_act_410
      · replace hsh := ite_p hc hsh
        refine v_iconst C dL_act_370 (v := 1) (by decide) ?_
        refine v_goto C 410 dL_act_371 (by decide) ?_
        obtain ⟨rfl, rfl⟩ := so_i hsh
        exact v_zret C (Or.inr rfl) dL_act_410
  have hj441 : ∀ (x1 : Int32) (x2 : Int32) (x3 : Int32) (G : gG) , sh_L_act_j441 x1 x2 x3 G = some (r0, G0) → V p l e (rM 8 192) s m args below meth c (isW ad) D t ad 0 0 9 (Qi below D t ad args s r0 G0) G 441 [none, none, none, none, none, none, none, none, none] [.int x3, .int x2, .int x1, .ref (ad 70)] := by
    intro x1 x2 x3 G hsh
    unfold sh_L_act_j441 at hsh
    obtain ⟨r85, G86, e84, hsh⟩ := obi_e hsh
    refine v_callI (nP := 3) (k := 70) C (by decide) rfl rfl (c_X3_link l D t ad hI  e84) k445 k442 k443 k444 k1 yo_X3_link ⟨Nat.le_of_ble_eq_true rfl, Nat.le_of_ble_eq_true rfl, rfl, rfl, Nat.zero_le _, Nat.zero_le _⟩ rfl rfl (Nat.le_of_ble_eq_true rfl) dL_act_441 ?_
    refine v_bipush C dL_act_444 (v := -5) (by decide) ?_
    refine v_ic_lt C 453 dL_act_446 (by decide) (fun hc => ?_) (fun hc => ?_)
    · replace hsh := ite_p hc hsh
      refine v_iconst C dL_act_453 (v := 0) (by decide) ?_
      obtain ⟨rfl, rfl⟩ := so_i hsh
      exact v_zret C (Or.inl rfl) dL_act_454
    · replace hsh := ite_n hc hsh
      refine v_iconst C dL_act_449 (v := 1) (by decide) ?_
      refine v_goto C 454 dL_act_450 (by decide) ?_
      obtain ⟨rfl, rfl⟩ := so_i hsh
      exact v_zret C (Or.inr rfl) dL_act_454
  have hj642 : ∀ (l5 : Int32) (l6 : Int32) (x0 : Int32) (x1 : Int32) (G : gG) , sh_L_act_j642 l5 l6 x0 x1 G = some (r0, G0) → V p l e (rM 8 192) s m args below meth c (isW ad) D t ad 0 0 9 (Qi below D t ad args s r0 G0) G 642 [some (.ref (ad 70)), none, none, none, none, some (.int l5), some (.int l6), none, none] [.int x1, .int x0] := by
    intro l5 l6 x0 x1 G hsh
    unfold sh_L_act_j642 at hsh
    refine v_ic_ne C 663 dL_act_642 (by decide) (fun hc => ?_) (fun hc => ?_)
    · replace hsh := ite_n hc hsh
      refine v_iconst C dL_act_663 (v := 0) (by decide) ?_
      obtain ⟨rfl, rfl⟩ := so_i hsh
      exact v_zret C (Or.inl rfl) dL_act_664
    · replace hsh := ite_p hc hsh
      refine v_aloadn C dL_act_645 rfl ?_
      refine v_bipush C dL_act_646 (v := 9) (by decide) ?_
      refine v_iload C dL_act_648 rfl ?_
      refine v_iadd C dL_act_650 ?_
      obtain ⟨r128, e127, hsh⟩ := obp_e hsh
      refine v_callI (nP := 1) (k := 70) C (by decide) rfl rfl (c_X3_count l D t ad hI  e127) k283 k280 k281 k282 k1 yo_X3_count ⟨Nat.le_of_ble_eq_true rfl, Nat.le_of_ble_eq_true rfl, rfl, rfl, Nat.zero_le _, Nat.zero_le _⟩ rfl rfl (Nat.le_of_ble_eq_true rfl) dL_act_651 ?_
      refine v_iload C dL_act_654 rfl ?_
      refine v_ic_ne C 663 dL_act_656 (by decide) (fun hc => ?_) (fun hc => ?_)
      · replace hsh := ite_n hc hsh
        refine v_iconst C dL_act_663 (v := 0) (by decide) ?_
        obtain ⟨rfl, rfl⟩ := so_i hsh
        exact v_zret C (Or.inl rfl) dL_act_664
      · replace hsh := ite_p hc hsh
        refine v_iconst C dL_act_659 (v := 1) (by decide) ?_
        refine v_goto C 664 dL_act_660 (by decide) ?_
        obtain ⟨rfl, rfl⟩ := so_i hsh
        exact v_zret C (Or.inr rfl) dL_act_664
  have hj607 : ∀ (l5 : Int32) (x0 : Int32) (G : gG) , sh_L_act_j607 l5 x0 G = some (r0, G0) → V p l e (rM 8 192) s m args below meth c (isW ad) D t ad 0 0 9 (Qi below D t ad args s r0 G0) G 607 [some (.ref (ad 70)), none, none, none, none, some (.int l5), none, none, none] [.int x0] := by
    intro l5 x0 G hsh
    unfold sh_L_act_j607 at hsh
    refine v_istore C dL_act_607 (by decide) ?_
    refine v_aloadn C dL_act_609 rfl ?_
    refine v_bipush C dL_act_610 (v := 9) (by decide) ?_
    refine v_iload C dL_act_612 rfl ?_
    refine v_iadd C dL_act_614 ?_
    obtain ⟨r123, e122, hsh⟩ := obp_e hsh
    refine v_callI (nP := 1) (k := 70) C (by decide) rfl rfl (c_X3_count l D t ad hI  e122) k283 k280 k281 k282 k1 yo_X3_count ⟨Nat.le_of_ble_eq_true rfl, Nat.le_of_ble_eq_true rfl, rfl, rfl, Nat.zero_le _, Nat.zero_le _⟩ rfl rfl (Nat.le_of_ble_eq_true rfl) dL_act_615 ?_
    refine v_istore C dL_act_618 (by decide) ?_
    refine v_aloadn C dL_act_620 rfl ?_
    refine v_iload C dL_act_621 rfl ?_
    refine v_iload C dL_act_623 rfl ?_
    obtain ⟨r125, G126, e124, hsh⟩ := obi_e hsh
    refine v_callI (nP := 2) (k := 70) C (by decide) rfl rfl (c_X3_set l D t ad hI  e124) k458 k455 k456 k457 k1 yo_X3_set ⟨Nat.le_of_ble_eq_true rfl, Nat.le_of_ble_eq_true rfl, rfl, rfl, Nat.zero_le _, Nat.zero_le _⟩ rfl rfl (Nat.le_of_ble_eq_true rfl) dL_act_625 ?_
    refine v_iload C dL_act_628 rfl ?_
    refine v_iload C dL_act_630 rfl ?_
    refine v_ic_ne C 640 dL_act_632 (by decide) (fun hc => ?_) (fun hc => ?_)
    · replace hsh := ite_n hc hsh
      refine v_iload C dL_act_640 rfl ?_
      exact v_wk (hj642 _ _ _ _ _ hsh) (wk_of (And.intro rfl (And.intro rfl (And.intro rfl trivial))))
    · replace hsh := ite_p hc hsh
      refine v_bipush C dL_act_635 (v := -5) (by decide) ?_
      refine v_goto C 642 dL_act_637 (by decide) ?_
      exact v_wk (hj642 _ _ _ _ _ hsh) (wk_of (And.intro rfl (And.intro rfl (And.intro rfl trivial))))
  refine v_iloadn C dL_act_0 rfl ?_
  refine v_bipush C dL_act_1 (v := 6) (by decide) ?_
  obtain ⟨r2, e1, hsh⟩ := obp_e hsh
  refine v_callS (nP := 2) C (c_L_low l D t ad hI  (G := G) e1) k391 k389 k390 k0 yo_L_low ⟨Nat.le_of_ble_eq_true rfl, Nat.le_of_ble_eq_true rfl, rfl, rfl, Nat.zero_le _, Nat.zero_le _⟩ rfl rfl (Nat.le_of_ble_eq_true rfl) dL_act_3 ?_
  refine v_istoren C dL_act_6 (by decide) ?_
  refine v_iloadn C dL_act_7 rfl ?_
  refine v_iconst C dL_act_8 (v := 3) (by decide) ?_
  refine v_ishr C dL_act_9 ?_
  refine v_bipush C dL_act_10 (v := 6) (by decide) ?_
  obtain ⟨r4, e3, hsh⟩ := obp_e hsh
  refine v_callS (nP := 2) C (c_L_low l D t ad hI  (G := G) e3) k391 k389 k390 k0 yo_L_low ⟨Nat.le_of_ble_eq_true rfl, Nat.le_of_ble_eq_true rfl, rfl, rfl, Nat.zero_le _, Nat.zero_le _⟩ rfl rfl (Nat.le_of_ble_eq_true rfl) dL_act_12 ?_
  refine v_istore C dL_act_15 (by decide) ?_
  refine v_iloadn C dL_act_17 rfl ?_
  refine v_bipush C dL_act_18 (v := 15) (by decide) ?_
  obtain ⟨r6, e5, hsh⟩ := obp_e hsh
  refine v_callS (nP := 2) C (c_L_low l D t ad hI  (G := G) e5) k391 k389 k390 k0 yo_L_low ⟨Nat.le_of_ble_eq_true rfl, Nat.le_of_ble_eq_true rfl, rfl, rfl, Nat.zero_le _, Nat.zero_le _⟩ rfl rfl (Nat.le_of_ble_eq_true rfl) dL_act_20 ?_
  by_cases h0 : r6 = (0 : Int32)
  · replace hsh := ite_p h0 hsh
    refine v_tabIn C 92 dL_act_23 (by rw [h0]; decide) (by rw [h0]; decide) (off := 69) (by rw [h0]; rfl) (by decide) ?_
    refine v_aloadn C dL_act_92 rfl ?_
    refine v_iconst C dL_act_93 (v := 1) (by decide) ?_
    obtain ⟨r8, e7, hsh⟩ := obp_e hsh
    refine v_callI (nP := 1) (k := 70) C (by decide) rfl rfl (c_X3_count l D t ad hI  e7) k283 k280 k281 k282 k1 yo_X3_count ⟨Nat.le_of_ble_eq_true rfl, Nat.le_of_ble_eq_true rfl, rfl, rfl, Nat.zero_le _, Nat.zero_le _⟩ rfl rfl (Nat.le_of_ble_eq_true rfl) dL_act_94 ?_
    refine v_istore C dL_act_97 (by decide) ?_
    refine v_aloadn C dL_act_99 rfl ?_
    refine v_iloadn C dL_act_100 rfl ?_
    refine v_iconst C dL_act_101 (v := 2) (by decide) ?_
    refine v_ishr C dL_act_102 ?_
    refine v_aloadn C dL_act_103 rfl ?_
    refine v_bipush C dL_act_104 (v := 9) (by decide) ?_
    obtain ⟨r10, e9, hsh⟩ := obp_e hsh
    refine v_callI (nP := 1) (k := 70) C (by decide) rfl rfl (c_X3_count l D t ad hI  e9) k283 k280 k281 k282 k1 yo_X3_count ⟨Nat.le_of_ble_eq_true rfl, Nat.le_of_ble_eq_true rfl, rfl, rfl, Nat.zero_le _, Nat.zero_le _⟩ rfl rfl (Nat.le_of_ble_eq_true rfl) dL_act_106 ?_
    obtain ⟨r12, e11, hsh⟩ := obp_e hsh
    refine v_callS (nP := 2) C (c_L_low l D t ad hI  (G := G) e11) k391 k389 k390 k0 yo_L_low ⟨Nat.le_of_ble_eq_true rfl, Nat.le_of_ble_eq_true rfl, rfl, rfl, Nat.zero_le _, Nat.zero_le _⟩ rfl rfl (Nat.le_of_ble_eq_true rfl) dL_act_109 ?_
    refine v_bipush C dL_act_112 (v := 50) (by decide) ?_
    refine v_iloadn C dL_act_114 rfl ?_
    refine v_bipush C dL_act_115 (v := 9) (by decide) ?_
    refine v_ishr C dL_act_117 ?_
    refine v_bipush C dL_act_118 (v := 101) (by decide) ?_
    obtain ⟨r14, e13, hsh⟩ := obp_e hsh
    refine v_callS (nP := 2) C (c_L_low l D t ad hI  (G := G) e13) k391 k389 k390 k0 yo_L_low ⟨Nat.le_of_ble_eq_true rfl, Nat.le_of_ble_eq_true rfl, rfl, rfl, Nat.zero_le _, Nat.zero_le _⟩ rfl rfl (Nat.le_of_ble_eq_true rfl) dL_act_120 ?_
    refine v_iadd C dL_act_123 ?_
    obtain ⟨r16, G17, e15, hsh⟩ := obi_e hsh
    refine v_callI (nP := 2) (k := 70) C (by decide) rfl rfl (c_X3_come l D t ad hI  e15) k396 k393 k394 k395 k1 yo_X3_come ⟨Nat.le_of_ble_eq_true rfl, Nat.le_of_ble_eq_true rfl, rfl, rfl, Nat.zero_le _, Nat.zero_le _⟩ rfl rfl (Nat.le_of_ble_eq_true rfl) dL_act_124 ?_
    refine v_istore C dL_act_127 (by decide) ?_
    refine v_iload C dL_act_129 rfl ?_
    refine v_bipush C dL_act_131 (v := 16) (by decide) ?_
    refine v_ic_ne C 151 dL_act_133 (by decide) (fun hc => ?_) (fun hc => ?_)
    · replace hsh := ite_n hc hsh
      refine v_iload C dL_act_151 rfl ?_
      refine v_if_lt C 192 dL_act_153 (by decide) (fun hc => ?_) (fun hc => ?_)
      · replace hsh := ite_p hc hsh
        refine v_iconst C dL_act_192 (v := 0) (by decide) ?_
        obtain ⟨rfl, rfl⟩ := so_i hsh
        exact v_zret C (Or.inl rfl) dL_act_193
      · replace hsh := ite_n hc hsh
        refine v_aloadn C dL_act_156 rfl ?_
        refine v_iconst C dL_act_157 (v := 1) (by decide) ?_
        obtain ⟨r19, e18, hsh⟩ := obp_e hsh
        refine v_callI (nP := 1) (k := 70) C (by decide) rfl rfl (c_X3_count l D t ad hI  e18) k283 k280 k281 k282 k1 yo_X3_count ⟨Nat.le_of_ble_eq_true rfl, Nat.le_of_ble_eq_true rfl, rfl, rfl, Nat.zero_le _, Nat.zero_le _⟩ rfl rfl (Nat.le_of_ble_eq_true rfl) dL_act_158 ?_
        refine v_iload C dL_act_161 rfl ?_
        refine v_iconst C dL_act_163 (v := 1) (by decide) ?_
        refine v_iadd C dL_act_164 ?_
        refine v_ic_ne C 192 dL_act_165 (by decide) (fun hc => ?_) (fun hc => ?_)
        · replace hsh := ite_n hc hsh
          refine v_iconst C dL_act_192 (v := 0) (by decide) ?_
          obtain ⟨rfl, rfl⟩ := so_i hsh
          exact v_zret C (Or.inl rfl) dL_act_193
        · replace hsh := ite_p hc hsh
          refine v_aloadn C dL_act_168 rfl ?_
          refine v_iload C dL_act_169 rfl ?_
          obtain ⟨r21, e20, hsh⟩ := obp_e hsh
          refine v_callS (nP := 2) C (c_L_isOn l D t ad hI  e20) k274 k272 k273 k0 yo_L_isOn ⟨Nat.le_of_ble_eq_true rfl, Nat.le_of_ble_eq_true rfl, rfl, rfl, Nat.zero_le _, Nat.zero_le _⟩ rfl rfl (Nat.le_of_ble_eq_true rfl) dL_act_171 ?_
          refine v_if_eq C 192 dL_act_174 (by decide) (fun hc => ?_) (fun hc => ?_)
          · replace hsh := ite_p hc hsh
            refine v_iconst C dL_act_192 (v := 0) (by decide) ?_
            obtain ⟨rfl, rfl⟩ := so_i hsh
            exact v_zret C (Or.inl rfl) dL_act_193
          · replace hsh := ite_n hc hsh
            refine v_aloadn C dL_act_177 rfl ?_
            refine v_iload C dL_act_178 rfl ?_
            refine v_bipush C dL_act_180 (v := 6) (by decide) ?_
            obtain ⟨r23, e22, hsh⟩ := obp_e hsh
            refine v_callI (nP := 2) (k := 70) C (by decide) rfl rfl (c_X3_lamp l D t ad hI  e22) k251 k248 k249 k250 k1 yo_X3_lamp ⟨Nat.le_of_ble_eq_true rfl, Nat.le_of_ble_eq_true rfl, rfl, rfl, Nat.zero_le _, Nat.zero_le _⟩ rfl rfl (Nat.le_of_ble_eq_true rfl) dL_act_182 ?_
            refine v_if_ne C 192 dL_act_185 (by decide) (fun hc => ?_) (fun hc => ?_)
            · replace hsh := ite_n hc hsh
              refine v_iconst C dL_act_192 (v := 0) (by decide) ?_
              obtain ⟨rfl, rfl⟩ := so_i hsh
              exact v_zret C (Or.inl rfl) dL_act_193
            · replace hsh := ite_p hc hsh
              refine v_iconst C dL_act_188 (v := 1) (by decide) ?_
              refine v_goto C 193 dL_act_189 (by decide) ?_
              obtain ⟨rfl, rfl⟩ := so_i hsh
              exact v_zret C (Or.inr rfl) dL_act_193
    · replace hsh := ite_p hc hsh
      refine v_iload C dL_act_136 rfl ?_
      refine v_bipush C dL_act_138 (v := -3) (by decide) ?_
      refine v_ic_ne C 147 dL_act_140 (by decide) (fun hc => ?_) (fun hc => ?_)
      · replace hsh := ite_n hc hsh
        refine v_iconst C dL_act_147 (v := 0) (by decide) ?_
        refine v_goto C 193 dL_act_148 (by decide) ?_
        obtain ⟨rfl, rfl⟩ := so_i hsh
        exact v_zret C (Or.inl rfl) dL_act_193
      · replace hsh := ite_p hc hsh
        refine v_iconst C dL_act_143 (v := 1) (by decide) ?_
        refine v_goto C 193 dL_act_144 (by decide) ?_
        obtain ⟨rfl, rfl⟩ := so_i hsh
        exact v_zret C (Or.inr rfl) dL_act_193
  · replace hsh := ite_n h0 hsh
    by_cases h1 : r6 = (1 : Int32)
    · replace hsh := ite_p h1 hsh
      refine v_tabIn C 92 dL_act_23 (by rw [h1]; decide) (by rw [h1]; decide) (off := 69) (by rw [h1]; rfl) (by decide) ?_
      refine v_aloadn C dL_act_92 rfl ?_
      refine v_iconst C dL_act_93 (v := 1) (by decide) ?_
      obtain ⟨r25, e24, hsh⟩ := obp_e hsh
      refine v_callI (nP := 1) (k := 70) C (by decide) rfl rfl (c_X3_count l D t ad hI  e24) k283 k280 k281 k282 k1 yo_X3_count ⟨Nat.le_of_ble_eq_true rfl, Nat.le_of_ble_eq_true rfl, rfl, rfl, Nat.zero_le _, Nat.zero_le _⟩ rfl rfl (Nat.le_of_ble_eq_true rfl) dL_act_94 ?_
      refine v_istore C dL_act_97 (by decide) ?_
      refine v_aloadn C dL_act_99 rfl ?_
      refine v_iloadn C dL_act_100 rfl ?_
      refine v_iconst C dL_act_101 (v := 2) (by decide) ?_
      refine v_ishr C dL_act_102 ?_
      refine v_aloadn C dL_act_103 rfl ?_
      refine v_bipush C dL_act_104 (v := 9) (by decide) ?_
      obtain ⟨r27, e26, hsh⟩ := obp_e hsh
      refine v_callI (nP := 1) (k := 70) C (by decide) rfl rfl (c_X3_count l D t ad hI  e26) k283 k280 k281 k282 k1 yo_X3_count ⟨Nat.le_of_ble_eq_true rfl, Nat.le_of_ble_eq_true rfl, rfl, rfl, Nat.zero_le _, Nat.zero_le _⟩ rfl rfl (Nat.le_of_ble_eq_true rfl) dL_act_106 ?_
      obtain ⟨r29, e28, hsh⟩ := obp_e hsh
      refine v_callS (nP := 2) C (c_L_low l D t ad hI  (G := G) e28) k391 k389 k390 k0 yo_L_low ⟨Nat.le_of_ble_eq_true rfl, Nat.le_of_ble_eq_true rfl, rfl, rfl, Nat.zero_le _, Nat.zero_le _⟩ rfl rfl (Nat.le_of_ble_eq_true rfl) dL_act_109 ?_
      refine v_bipush C dL_act_112 (v := 50) (by decide) ?_
      refine v_iloadn C dL_act_114 rfl ?_
      refine v_bipush C dL_act_115 (v := 9) (by decide) ?_
      refine v_ishr C dL_act_117 ?_
      refine v_bipush C dL_act_118 (v := 101) (by decide) ?_
      obtain ⟨r31, e30, hsh⟩ := obp_e hsh
      refine v_callS (nP := 2) C (c_L_low l D t ad hI  (G := G) e30) k391 k389 k390 k0 yo_L_low ⟨Nat.le_of_ble_eq_true rfl, Nat.le_of_ble_eq_true rfl, rfl, rfl, Nat.zero_le _, Nat.zero_le _⟩ rfl rfl (Nat.le_of_ble_eq_true rfl) dL_act_120 ?_
      refine v_iadd C dL_act_123 ?_
      obtain ⟨r33, G34, e32, hsh⟩ := obi_e hsh
      refine v_callI (nP := 2) (k := 70) C (by decide) rfl rfl (c_X3_come l D t ad hI  e32) k396 k393 k394 k395 k1 yo_X3_come ⟨Nat.le_of_ble_eq_true rfl, Nat.le_of_ble_eq_true rfl, rfl, rfl, Nat.zero_le _, Nat.zero_le _⟩ rfl rfl (Nat.le_of_ble_eq_true rfl) dL_act_124 ?_
      refine v_istore C dL_act_127 (by decide) ?_
      refine v_iload C dL_act_129 rfl ?_
      refine v_bipush C dL_act_131 (v := 16) (by decide) ?_
      refine v_ic_ne C 151 dL_act_133 (by decide) (fun hc => ?_) (fun hc => ?_)
      · replace hsh := ite_n hc hsh
        refine v_iload C dL_act_151 rfl ?_
        refine v_if_lt C 192 dL_act_153 (by decide) (fun hc => ?_) (fun hc => ?_)
        · replace hsh := ite_p hc hsh
          refine v_iconst C dL_act_192 (v := 0) (by decide) ?_
          obtain ⟨rfl, rfl⟩ := so_i hsh
          exact v_zret C (Or.inl rfl) dL_act_193
        · replace hsh := ite_n hc hsh
          refine v_aloadn C dL_act_156 rfl ?_
          refine v_iconst C dL_act_157 (v := 1) (by decide) ?_
          obtain ⟨r36, e35, hsh⟩ := obp_e hsh
          refine v_callI (nP := 1) (k := 70) C (by decide) rfl rfl (c_X3_count l D t ad hI  e35) k283 k280 k281 k282 k1 yo_X3_count ⟨Nat.le_of_ble_eq_true rfl, Nat.le_of_ble_eq_true rfl, rfl, rfl, Nat.zero_le _, Nat.zero_le _⟩ rfl rfl (Nat.le_of_ble_eq_true rfl) dL_act_158 ?_
          refine v_iload C dL_act_161 rfl ?_
          refine v_iconst C dL_act_163 (v := 1) (by decide) ?_
          refine v_iadd C dL_act_164 ?_
          refine v_ic_ne C 192 dL_act_165 (by decide) (fun hc => ?_) (fun hc => ?_)
          · replace hsh := ite_n hc hsh
            refine v_iconst C dL_act_192 (v := 0) (by decide) ?_
            obtain ⟨rfl, rfl⟩ := so_i hsh
            exact v_zret C (Or.inl rfl) dL_act_193
          · replace hsh := ite_p hc hsh
            refine v_aloadn C dL_act_168 rfl ?_
            refine v_iload C dL_act_169 rfl ?_
            obtain ⟨r38, e37, hsh⟩ := obp_e hsh
            refine v_callS (nP := 2) C (c_L_isOn l D t ad hI  e37) k274 k272 k273 k0 yo_L_isOn ⟨Nat.le_of_ble_eq_true rfl, Nat.le_of_ble_eq_true rfl, rfl, rfl, Nat.zero_le _, Nat.zero_le _⟩ rfl rfl (Nat.le_of_ble_eq_true rfl) dL_act_171 ?_
            refine v_if_eq C 192 dL_act_174 (by decide) (fun hc => ?_) (fun hc => ?_)
            · replace hsh := ite_p hc hsh
              refine v_iconst C dL_act_192 (v := 0) (by decide) ?_
              obtain ⟨rfl, rfl⟩ := so_i hsh
              exact v_zret C (Or.inl rfl) dL_act_193
            · replace hsh := ite_n hc hsh
              refine v_aloadn C dL_act_177 rfl ?_
              refine v_iload C dL_act_178 rfl ?_
              refine v_bipush C dL_act_180 (v := 6) (by decide) ?_
              obtain ⟨r40, e39, hsh⟩ := obp_e hsh
              refine v_callI (nP := 2) (k := 70) C (by decide) rfl rfl (c_X3_lamp l D t ad hI  e39) k251 k248 k249 k250 k1 yo_X3_lamp ⟨Nat.le_of_ble_eq_true rfl, Nat.le_of_ble_eq_true rfl, rfl, rfl, Nat.zero_le _, Nat.zero_le _⟩ rfl rfl (Nat.le_of_ble_eq_true rfl) dL_act_182 ?_
              refine v_if_ne C 192 dL_act_185 (by decide) (fun hc => ?_) (fun hc => ?_)
              · replace hsh := ite_n hc hsh
                refine v_iconst C dL_act_192 (v := 0) (by decide) ?_
                obtain ⟨rfl, rfl⟩ := so_i hsh
                exact v_zret C (Or.inl rfl) dL_act_193
              · replace hsh := ite_p hc hsh
                refine v_iconst C dL_act_188 (v := 1) (by decide) ?_
                refine v_goto C 193 dL_act_189 (by decide) ?_
                obtain ⟨rfl, rfl⟩ := so_i hsh
                exact v_zret C (Or.inr rfl) dL_act_193
      · replace hsh := ite_p hc hsh
        refine v_iload C dL_act_136 rfl ?_
        refine v_bipush C dL_act_138 (v := -3) (by decide) ?_
        refine v_ic_ne C 147 dL_act_140 (by decide) (fun hc => ?_) (fun hc => ?_)
        · replace hsh := ite_n hc hsh
          refine v_iconst C dL_act_147 (v := 0) (by decide) ?_
          refine v_goto C 193 dL_act_148 (by decide) ?_
          obtain ⟨rfl, rfl⟩ := so_i hsh
          exact v_zret C (Or.inl rfl) dL_act_193
        · replace hsh := ite_p hc hsh
          refine v_iconst C dL_act_143 (v := 1) (by decide) ?_
          refine v_goto C 193 dL_act_144 (by decide) ?_
          obtain ⟨rfl, rfl⟩ := so_i hsh
          exact v_zret C (Or.inr rfl) dL_act_193
    · replace hsh := ite_n h1 hsh
      by_cases h2 : r6 = (2 : Int32)
      · replace hsh := ite_p h2 hsh
        refine v_tabIn C 194 dL_act_23 (by rw [h2]; decide) (by rw [h2]; decide) (off := 171) (by rw [h2]; rfl) (by decide) ?_
        refine v_aloadn C dL_act_194 rfl ?_
        obtain ⟨r42, e41, hsh⟩ := obl_e hsh
        refine v_callSl (nP := 1) C (c_L_tale l D t ad hI  e41) k414 k412 k413 k0 yo_L_tale ⟨Nat.le_of_ble_eq_true rfl, Nat.le_of_ble_eq_true rfl, rfl, rfl, Nat.zero_le _, Nat.zero_le _⟩ rfl rfl (Nat.le_of_ble_eq_true rfl) dL_act_195 ?_
        refine v_lstore C dL_act_198 (by decide) ?_
        refine v_iconst C dL_act_200 (v := 0) (by decide) ?_
        refine v_istore C dL_act_201 (by decide) ?_
        refine v_iconst C dL_act_203 (v := 0) (by decide) ?_
        refine v_istore C dL_act_204 (by decide) ?_
        refine v_wk (lp_L_act_206 C hI (fun l2 l3 w5 l7 G hsh => ?_) FU _ _ _ _ _ _ hsh) (wk_of (And.intro rfl (And.intro rfl (And.intro rfl (And.intro rfl (And.intro rfl (And.intro rfl trivial)))))))
        exact v_wk (hj244 _ _ _ _ _ hsh) (wk_of (And.intro rfl (And.intro rfl (And.intro rfl (And.intro rfl (And.intro rfl trivial))))))
      · replace hsh := ite_n h2 hsh
        by_cases h3 : r6 = (3 : Int32)
        · replace hsh := ite_p h3 hsh
          refine v_tabIn C 330 dL_act_23 (by rw [h3]; decide) (by rw [h3]; decide) (off := 307) (by rw [h3]; rfl) (by decide) ?_
          refine v_iloadn C dL_act_330 rfl ?_
          refine v_iconst C dL_act_331 (v := 4) (by decide) ?_
          refine v_ishr C dL_act_332 ?_
          refine v_iconst C dL_act_333 (v := 3) (by decide) ?_
          obtain ⟨r69, e68, hsh⟩ := obp_e hsh
          refine v_callS (nP := 2) C (c_L_low l D t ad hI  (G := G) e68) k391 k389 k390 k0 yo_L_low ⟨Nat.le_of_ble_eq_true rfl, Nat.le_of_ble_eq_true rfl, rfl, rfl, Nat.zero_le _, Nat.zero_le _⟩ rfl rfl (Nat.le_of_ble_eq_true rfl) dL_act_334 ?_
          refine v_if_le C 344 dL_act_337 (by decide) (fun hc => ?_) (fun hc => ?_)
          · replace hsh := ite_p hc hsh
            refine v_iconst C dL_act_344 (v := 0) (by decide) ?_
            exact v_wk (hj345 _ _ _ hsh) (wk_of (And.intro rfl (And.intro rfl trivial)))
          · replace hsh := ite_n hc hsh
            refine v_iconst C dL_act_340 (v := 1) (by decide) ?_
            refine v_goto C 345 dL_act_341 (by decide) ?_
            exact v_wk (hj345 _ _ _ hsh) (wk_of (And.intro rfl (And.intro rfl trivial)))
        · replace hsh := ite_n h3 hsh
          by_cases h4 : r6 = (4 : Int32)
          · replace hsh := ite_p h4 hsh
            refine v_tabIn C 411 dL_act_23 (by rw [h4]; decide) (by rw [h4]; decide) (off := 388) (by rw [h4]; rfl) (by decide) ?_
            refine v_aloadn C dL_act_411 rfl ?_
            refine v_iloadn C dL_act_412 rfl ?_
            refine v_iload C dL_act_413 rfl ?_
            obtain ⟨r80, G81, e79, hsh⟩ := obi_e hsh
            refine v_callS (nP := 3) C (c_L_linkedSo l D t ad hI  e79) k436 k434 k435 k0 yo_L_linkedSo ⟨Nat.le_of_ble_eq_true rfl, Nat.le_of_ble_eq_true rfl, rfl, rfl, Nat.zero_le _, Nat.zero_le _⟩ rfl rfl (Nat.le_of_ble_eq_true rfl) dL_act_415 ?_
            refine v_if_eq C 453 dL_act_418 (by decide) (fun hc => ?_) (fun hc => ?_)
            · replace hsh := ite_p hc hsh
              refine v_iconst C dL_act_453 (v := 0) (by decide) ?_
              obtain ⟨rfl, rfl⟩ := so_i hsh
              exact v_zret C (Or.inl rfl) dL_act_454
            · replace hsh := ite_n hc hsh
              refine v_aloadn C dL_act_421 rfl ?_
              refine v_iloadn C dL_act_422 rfl ?_
              refine v_iload C dL_act_423 rfl ?_
              refine v_iloadn C dL_act_425 rfl ?_
              refine v_bipush C dL_act_426 (v := 6) (by decide) ?_
              refine v_ishr C dL_act_428 ?_
              refine v_iconst C dL_act_429 (v := 4) (by decide) ?_
              obtain ⟨r83, e82, hsh⟩ := obp_e hsh
              refine v_callS (nP := 2) C (c_L_low l D t ad hI  (G := G81) e82) k391 k389 k390 k0 yo_L_low ⟨Nat.le_of_ble_eq_true rfl, Nat.le_of_ble_eq_true rfl, rfl, rfl, Nat.zero_le _, Nat.zero_le _⟩ rfl rfl (Nat.le_of_ble_eq_true rfl) dL_act_430 ?_
              refine v_if_le C 440 dL_act_433 (by decide) (fun hc => ?_) (fun hc => ?_)
              · replace hsh := ite_p hc hsh
                refine v_iconst C dL_act_440 (v := 0) (by decide) ?_
                exact v_wk (hj441 _ _ _ _ hsh) (wk_of trivial)
              · replace hsh := ite_n hc hsh
                refine v_iconst C dL_act_436 (v := 1) (by decide) ?_
                refine v_goto C 441 dL_act_437 (by decide) ?_
                exact v_wk (hj441 _ _ _ _ hsh) (wk_of trivial)
          · replace hsh := ite_n h4 hsh
            by_cases h5 : r6 = (5 : Int32)
            · replace hsh := ite_p h5 hsh
              refine v_tabIn C 411 dL_act_23 (by rw [h5]; decide) (by rw [h5]; decide) (off := 388) (by rw [h5]; rfl) (by decide) ?_
              refine v_aloadn C dL_act_411 rfl ?_
              refine v_iloadn C dL_act_412 rfl ?_
              refine v_iload C dL_act_413 rfl ?_
              obtain ⟨r88, G89, e87, hsh⟩ := obi_e hsh
              refine v_callS (nP := 3) C (c_L_linkedSo l D t ad hI  e87) k436 k434 k435 k0 yo_L_linkedSo ⟨Nat.le_of_ble_eq_true rfl, Nat.le_of_ble_eq_true rfl, rfl, rfl, Nat.zero_le _, Nat.zero_le _⟩ rfl rfl (Nat.le_of_ble_eq_true rfl) dL_act_415 ?_
              refine v_if_eq C 453 dL_act_418 (by decide) (fun hc => ?_) (fun hc => ?_)
              · replace hsh := ite_p hc hsh
                refine v_iconst C dL_act_453 (v := 0) (by decide) ?_
                obtain ⟨rfl, rfl⟩ := so_i hsh
                exact v_zret C (Or.inl rfl) dL_act_454
              · replace hsh := ite_n hc hsh
                refine v_aloadn C dL_act_421 rfl ?_
                refine v_iloadn C dL_act_422 rfl ?_
                refine v_iload C dL_act_423 rfl ?_
                refine v_iloadn C dL_act_425 rfl ?_
                refine v_bipush C dL_act_426 (v := 6) (by decide) ?_
                refine v_ishr C dL_act_428 ?_
                refine v_iconst C dL_act_429 (v := 4) (by decide) ?_
                obtain ⟨r91, e90, hsh⟩ := obp_e hsh
                refine v_callS (nP := 2) C (c_L_low l D t ad hI  (G := G89) e90) k391 k389 k390 k0 yo_L_low ⟨Nat.le_of_ble_eq_true rfl, Nat.le_of_ble_eq_true rfl, rfl, rfl, Nat.zero_le _, Nat.zero_le _⟩ rfl rfl (Nat.le_of_ble_eq_true rfl) dL_act_430 ?_
                refine v_if_le C 440 dL_act_433 (by decide) (fun hc => ?_) (fun hc => ?_)
                · replace hsh := ite_p hc hsh
                  refine v_iconst C dL_act_440 (v := 0) (by decide) ?_
                  exact v_wk (hj441 _ _ _ _ hsh) (wk_of trivial)
                · replace hsh := ite_n hc hsh
                  refine v_iconst C dL_act_436 (v := 1) (by decide) ?_
                  refine v_goto C 441 dL_act_437 (by decide) ?_
                  exact v_wk (hj441 _ _ _ _ hsh) (wk_of trivial)
            · replace hsh := ite_n h5 hsh
              by_cases h6 : r6 = (6 : Int32)
              · replace hsh := ite_p h6 hsh
                refine v_tabIn C 455 dL_act_23 (by rw [h6]; decide) (by rw [h6]; decide) (off := 432) (by rw [h6]; rfl) (by decide) ?_
                refine v_aloadn C dL_act_455 rfl ?_
                refine v_iloadn C dL_act_456 rfl ?_
                refine v_iload C dL_act_457 rfl ?_
                refine v_iconst C dL_act_459 (v := 1) (by decide) ?_
                obtain ⟨r93, G94, e92, hsh⟩ := obi_e hsh
                refine v_callI (nP := 3) (k := 70) C (by decide) rfl rfl (c_X3_link l D t ad hI  e92) k445 k442 k443 k444 k1 yo_X3_link ⟨Nat.le_of_ble_eq_true rfl, Nat.le_of_ble_eq_true rfl, rfl, rfl, Nat.zero_le _, Nat.zero_le _⟩ rfl rfl (Nat.le_of_ble_eq_true rfl) dL_act_460 ?_
                refine v_bipush C dL_act_463 (v := -5) (by decide) ?_
                refine v_ic_lt C 472 dL_act_465 (by decide) (fun hc => ?_) (fun hc => ?_)
                · replace hsh := ite_p hc hsh
                  refine v_iconst C dL_act_472 (v := 0) (by decide) ?_
                  obtain ⟨rfl, rfl⟩ := so_i hsh
                  exact v_zret C (Or.inl rfl) dL_act_473
                · replace hsh := ite_n hc hsh
                  refine v_iconst C dL_act_468 (v := 1) (by decide) ?_
                  refine v_goto C 473 dL_act_469 (by decide) ?_
                  obtain ⟨rfl, rfl⟩ := so_i hsh
                  exact v_zret C (Or.inr rfl) dL_act_473
              · replace hsh := ite_n h6 hsh
                by_cases h7 : r6 = (7 : Int32)
                · replace hsh := ite_p h7 hsh
                  refine v_tabIn C 455 dL_act_23 (by rw [h7]; decide) (by rw [h7]; decide) (off := 432) (by rw [h7]; rfl) (by decide) ?_
                  refine v_aloadn C dL_act_455 rfl ?_
                  refine v_iloadn C dL_act_456 rfl ?_
                  refine v_iload C dL_act_457 rfl ?_
                  refine v_iconst C dL_act_459 (v := 1) (by decide) ?_
                  obtain ⟨r96, G97, e95, hsh⟩ := obi_e hsh
                  refine v_callI (nP := 3) (k := 70) C (by decide) rfl rfl (c_X3_link l D t ad hI  e95) k445 k442 k443 k444 k1 yo_X3_link ⟨Nat.le_of_ble_eq_true rfl, Nat.le_of_ble_eq_true rfl, rfl, rfl, Nat.zero_le _, Nat.zero_le _⟩ rfl rfl (Nat.le_of_ble_eq_true rfl) dL_act_460 ?_
                  refine v_bipush C dL_act_463 (v := -5) (by decide) ?_
                  refine v_ic_lt C 472 dL_act_465 (by decide) (fun hc => ?_) (fun hc => ?_)
                  · replace hsh := ite_p hc hsh
                    refine v_iconst C dL_act_472 (v := 0) (by decide) ?_
                    obtain ⟨rfl, rfl⟩ := so_i hsh
                    exact v_zret C (Or.inl rfl) dL_act_473
                  · replace hsh := ite_n hc hsh
                    refine v_iconst C dL_act_468 (v := 1) (by decide) ?_
                    refine v_goto C 473 dL_act_469 (by decide) ?_
                    obtain ⟨rfl, rfl⟩ := so_i hsh
                    exact v_zret C (Or.inr rfl) dL_act_473
                · replace hsh := ite_n h7 hsh
                  by_cases h8 : r6 = (8 : Int32)
                  · replace hsh := ite_p h8 hsh
                    refine v_tabIn C 455 dL_act_23 (by rw [h8]; decide) (by rw [h8]; decide) (off := 432) (by rw [h8]; rfl) (by decide) ?_
                    refine v_aloadn C dL_act_455 rfl ?_
                    refine v_iloadn C dL_act_456 rfl ?_
                    refine v_iload C dL_act_457 rfl ?_
                    refine v_iconst C dL_act_459 (v := 1) (by decide) ?_
                    obtain ⟨r99, G100, e98, hsh⟩ := obi_e hsh
                    refine v_callI (nP := 3) (k := 70) C (by decide) rfl rfl (c_X3_link l D t ad hI  e98) k445 k442 k443 k444 k1 yo_X3_link ⟨Nat.le_of_ble_eq_true rfl, Nat.le_of_ble_eq_true rfl, rfl, rfl, Nat.zero_le _, Nat.zero_le _⟩ rfl rfl (Nat.le_of_ble_eq_true rfl) dL_act_460 ?_
                    refine v_bipush C dL_act_463 (v := -5) (by decide) ?_
                    refine v_ic_lt C 472 dL_act_465 (by decide) (fun hc => ?_) (fun hc => ?_)
                    · replace hsh := ite_p hc hsh
                      refine v_iconst C dL_act_472 (v := 0) (by decide) ?_
                      obtain ⟨rfl, rfl⟩ := so_i hsh
                      exact v_zret C (Or.inl rfl) dL_act_473
                    · replace hsh := ite_n hc hsh
                      refine v_iconst C dL_act_468 (v := 1) (by decide) ?_
                      refine v_goto C 473 dL_act_469 (by decide) ?_
                      obtain ⟨rfl, rfl⟩ := so_i hsh
                      exact v_zret C (Or.inr rfl) dL_act_473
                  · replace hsh := ite_n h8 hsh
                    by_cases h9 : r6 = (9 : Int32)
                    · replace hsh := ite_p h9 hsh
                      refine v_tabIn C 474 dL_act_23 (by rw [h9]; decide) (by rw [h9]; decide) (off := 451) (by rw [h9]; rfl) (by decide) ?_
                      refine v_aloadn C dL_act_474 rfl ?_
                      refine v_iloadn C dL_act_475 rfl ?_
                      refine v_iconst C dL_act_476 (v := 0) (by decide) ?_
                      obtain ⟨r102, e101, hsh⟩ := obp_e hsh
                      refine v_callI (nP := 2) (k := 70) C (by decide) rfl rfl (c_X3_lamp l D t ad hI  e101) k251 k248 k249 k250 k1 yo_X3_lamp ⟨Nat.le_of_ble_eq_true rfl, Nat.le_of_ble_eq_true rfl, rfl, rfl, Nat.zero_le _, Nat.zero_le _⟩ rfl rfl (Nat.le_of_ble_eq_true rfl) dL_act_477 ?_
                      refine v_istore C dL_act_480 (by decide) ?_
                      refine v_aloadn C dL_act_482 rfl ?_
                      refine v_iloadn C dL_act_483 rfl ?_
                      refine v_iloadn C dL_act_484 rfl ?_
                      refine v_iconst C dL_act_485 (v := 4) (by decide) ?_
                      refine v_ishr C dL_act_486 ?_
                      refine v_aloadn C dL_act_487 rfl ?_
                      refine v_bipush C dL_act_488 (v := 9) (by decide) ?_
                      obtain ⟨r104, e103, hsh⟩ := obp_e hsh
                      refine v_callI (nP := 1) (k := 70) C (by decide) rfl rfl (c_X3_count l D t ad hI  e103) k283 k280 k281 k282 k1 yo_X3_count ⟨Nat.le_of_ble_eq_true rfl, Nat.le_of_ble_eq_true rfl, rfl, rfl, Nat.zero_le _, Nat.zero_le _⟩ rfl rfl (Nat.le_of_ble_eq_true rfl) dL_act_490 ?_
                      obtain ⟨r106, e105, hsh⟩ := obp_e hsh
                      refine v_callS (nP := 2) C (c_L_low l D t ad hI  (G := G) e105) k391 k389 k390 k0 yo_L_low ⟨Nat.le_of_ble_eq_true rfl, Nat.le_of_ble_eq_true rfl, rfl, rfl, Nat.zero_le _, Nat.zero_le _⟩ rfl rfl (Nat.le_of_ble_eq_true rfl) dL_act_493 ?_
                      refine v_bipush C dL_act_496 (v := 100) (by decide) ?_
                      obtain ⟨r108, G109, e107, hsh⟩ := obi_e hsh
                      refine v_callI (nP := 3) (k := 70) C (by decide) rfl rfl (c_X3_tune l D t ad hI  e107) k450 k447 k448 k449 k1 yo_X3_tune ⟨Nat.le_of_ble_eq_true rfl, Nat.le_of_ble_eq_true rfl, rfl, rfl, Nat.zero_le _, Nat.zero_le _⟩ rfl rfl (Nat.le_of_ble_eq_true rfl) dL_act_498 ?_
                      refine v_istore C dL_act_501 (by decide) ?_
                      refine v_iload C dL_act_503 rfl ?_
                      refine v_iload C dL_act_505 rfl ?_
                      refine v_ic_ne C 554 dL_act_507 (by decide) (fun hc => ?_) (fun hc => ?_)
                      · replace hsh := ite_n hc hsh
                        refine v_iconst C dL_act_554 (v := 0) (by decide) ?_
                        obtain ⟨rfl, rfl⟩ := so_i hsh
                        exact v_zret C (Or.inl rfl) dL_act_555
                      · replace hsh := ite_p hc hsh
                        refine v_iload C dL_act_510 rfl ?_
                        refine v_if_lt C 550 dL_act_512 (by decide) (fun hc => ?_) (fun hc => ?_)
                        · replace hsh := ite_p hc hsh
                          refine v_iconst C dL_act_550 (v := 1) (by decide) ?_
                          refine v_goto C 555 dL_act_551 (by decide) ?_
                          obtain ⟨rfl, rfl⟩ := so_i hsh
                          exact v_zret C (Or.inr rfl) dL_act_555
                        · replace hsh := ite_n hc hsh
                          refine v_aloadn C dL_act_515 rfl ?_
                          refine v_iloadn C dL_act_516 rfl ?_
                          refine v_iconst C dL_act_517 (v := 0) (by decide) ?_
                          obtain ⟨r111, e110, hsh⟩ := obp_e hsh
                          refine v_callI (nP := 2) (k := 70) C (by decide) rfl rfl (c_X3_lamp l D t ad hI  e110) k251 k248 k249 k250 k1 yo_X3_lamp ⟨Nat.le_of_ble_eq_true rfl, Nat.le_of_ble_eq_true rfl, rfl, rfl, Nat.zero_le _, Nat.zero_le _⟩ rfl rfl (Nat.le_of_ble_eq_true rfl) dL_act_518 ?_
                          refine v_bipush C dL_act_521 (v := 100) (by decide) ?_
                          refine v_iloadn C dL_act_523 rfl ?_
                          refine v_iconst C dL_act_524 (v := 4) (by decide) ?_
                          refine v_ishr C dL_act_525 ?_
                          refine v_aloadn C dL_act_526 rfl ?_
                          refine v_bipush C dL_act_527 (v := 9) (by decide) ?_
                          obtain ⟨r113, e112, hsh⟩ := obp_e hsh
                          refine v_callI (nP := 1) (k := 70) C (by decide) rfl rfl (c_X3_count l D t ad hI  e112) k283 k280 k281 k282 k1 yo_X3_count ⟨Nat.le_of_ble_eq_true rfl, Nat.le_of_ble_eq_true rfl, rfl, rfl, Nat.zero_le _, Nat.zero_le _⟩ rfl rfl (Nat.le_of_ble_eq_true rfl) dL_act_529 ?_
                          obtain ⟨r115, e114, hsh⟩ := obp_e hsh
                          refine v_callS (nP := 2) C (c_L_low l D t ad hI  (G := G109) e114) k391 k389 k390 k0 yo_L_low ⟨Nat.le_of_ble_eq_true rfl, Nat.le_of_ble_eq_true rfl, rfl, rfl, Nat.zero_le _, Nat.zero_le _⟩ rfl rfl (Nat.le_of_ble_eq_true rfl) dL_act_532 ?_
                          refine v_imul C dL_act_535 ?_
                          refine v_ic_ne C 554 dL_act_536 (by decide) (fun hc => ?_) (fun hc => ?_)
                          · replace hsh := ite_n hc hsh
                            refine v_iconst C dL_act_554 (v := 0) (by decide) ?_
                            obtain ⟨rfl, rfl⟩ := so_i hsh
                            exact v_zret C (Or.inl rfl) dL_act_555
                          · replace hsh := ite_p hc hsh
                            refine v_aloadn C dL_act_539 rfl ?_
                            refine v_iloadn C dL_act_540 rfl ?_
                            refine v_iconst C dL_act_541 (v := 1) (by decide) ?_
                            obtain ⟨r117, e116, hsh⟩ := obp_e hsh
                            refine v_callI (nP := 2) (k := 70) C (by decide) rfl rfl (c_X3_lamp l D t ad hI  e116) k251 k248 k249 k250 k1 yo_X3_lamp ⟨Nat.le_of_ble_eq_true rfl, Nat.le_of_ble_eq_true rfl, rfl, rfl, Nat.zero_le _, Nat.zero_le _⟩ rfl rfl (Nat.le_of_ble_eq_true rfl) dL_act_542 ?_
                            refine v_bipush C dL_act_545 (v := 100) (by decide) ?_
                            refine v_ic_ne C 554 dL_act_547 (by decide) (fun hc => ?_) (fun hc => ?_)
                            · replace hsh := ite_n hc hsh
                              refine v_iconst C dL_act_554 (v := 0) (by decide) ?_
                              obtain ⟨rfl, rfl⟩ := so_i hsh
                              exact v_zret C (Or.inl rfl) dL_act_555
                            · replace hsh := ite_p hc hsh
                              refine v_iconst C dL_act_550 (v := 1) (by decide) ?_
                              refine v_goto C 555 dL_act_551 (by decide) ?_
                              obtain ⟨rfl, rfl⟩ := so_i hsh
                              exact v_zret C (Or.inr rfl) dL_act_555
                    · replace hsh := ite_n h9 hsh
                      by_cases h10 : r6 = (10 : Int32)
                      · replace hsh := ite_p h10 hsh
                        refine v_tabIn C 556 dL_act_23 (by rw [h10]; decide) (by rw [h10]; decide) (off := 533) (by rw [h10]; rfl) (by decide) ?_
                        refine v_iloadn C dL_act_556 rfl ?_
                        refine v_iconst C dL_act_557 (v := 3) (by decide) ?_
                        obtain ⟨r119, e118, hsh⟩ := obp_e hsh
                        refine v_callS (nP := 2) C (c_L_low l D t ad hI  (G := G) e118) k391 k389 k390 k0 yo_L_low ⟨Nat.le_of_ble_eq_true rfl, Nat.le_of_ble_eq_true rfl, rfl, rfl, Nat.zero_le _, Nat.zero_le _⟩ rfl rfl (Nat.le_of_ble_eq_true rfl) dL_act_558 ?_
                        refine v_istore C dL_act_561 (by decide) ?_
                        refine v_iload C dL_act_563 rfl ?_
                        refine v_if_ne C 582 dL_act_565 (by decide) (fun hc => ?_) (fun hc => ?_)
                        · replace hsh := ite_n hc hsh
                          refine v_iload C dL_act_582 rfl ?_
                          refine v_iconst C dL_act_584 (v := 1) (by decide) ?_
                          refine v_ic_ne C 599 dL_act_585 (by decide) (fun hc => ?_) (fun hc => ?_)
                          · replace hsh := ite_n hc hsh
                            refine v_iloadn C dL_act_599 rfl ?_
                            refine v_iconst C dL_act_600 (v := 2) (by decide) ?_
                            refine v_ishr C dL_act_601 ?_
                            refine v_bipush C dL_act_602 (v := 6) (by decide) ?_
                            obtain ⟨r121, e120, hsh⟩ := obp_e hsh
                            refine v_callS (nP := 2) C (c_L_low l D t ad hI  (G := G) e120) k391 k389 k390 k0 yo_L_low ⟨Nat.le_of_ble_eq_true rfl, Nat.le_of_ble_eq_true rfl, rfl, rfl, Nat.zero_le _, Nat.zero_le _⟩ rfl rfl (Nat.le_of_ble_eq_true rfl) dL_act_604 ?_
                            exact v_wk (hj607 _ _ _ hsh) (wk_of (And.intro rfl (And.intro rfl trivial)))
                          · replace hsh := ite_p hc hsh
                            refine v_iloadn C dL_act_588 rfl ?_
                            refine v_iconst C dL_act_589 (v := 2) (by decide) ?_
                            refine v_ishr C dL_act_590 ?_
                            refine v_bipush C dL_act_591 (v := 101) (by decide) ?_
                            obtain ⟨r130, e129, hsh⟩ := obp_e hsh
                            refine v_callS (nP := 2) C (c_L_low l D t ad hI  (G := G) e129) k391 k389 k390 k0 yo_L_low ⟨Nat.le_of_ble_eq_true rfl, Nat.le_of_ble_eq_true rfl, rfl, rfl, Nat.zero_le _, Nat.zero_le _⟩ rfl rfl (Nat.le_of_ble_eq_true rfl) dL_act_593 ?_
                            refine v_goto C 607 dL_act_596 (by decide) ?_
                            exact v_wk (hj607 _ _ _ hsh) (wk_of (And.intro rfl (And.intro rfl trivial)))
                        · replace hsh := ite_p hc hsh
                          refine v_bipush C dL_act_568 (v := 10) (by decide) ?_
                          refine v_iloadn C dL_act_570 rfl ?_
                          refine v_iconst C dL_act_571 (v := 2) (by decide) ?_
                          refine v_ishr C dL_act_572 ?_
                          refine v_bipush C dL_act_573 (v := 60) (by decide) ?_
                          obtain ⟨r132, e131, hsh⟩ := obp_e hsh
                          refine v_callS (nP := 2) C (c_L_low l D t ad hI  (G := G) e131) k391 k389 k390 k0 yo_L_low ⟨Nat.le_of_ble_eq_true rfl, Nat.le_of_ble_eq_true rfl, rfl, rfl, Nat.zero_le _, Nat.zero_le _⟩ rfl rfl (Nat.le_of_ble_eq_true rfl) dL_act_575 ?_
                          refine v_iadd C dL_act_578 ?_
                          refine v_goto C 607 dL_act_579 (by decide) ?_
                          exact v_wk (hj607 _ _ _ hsh) (wk_of (And.intro rfl (And.intro rfl trivial)))
                      · replace hsh := ite_n h10 hsh
                        by_cases h11 : r6 = (11 : Int32)
                        · replace hsh := ite_p h11 hsh
                          refine v_tabIn C 665 dL_act_23 (by rw [h11]; decide) (by rw [h11]; decide) (off := 642) (by rw [h11]; rfl) (by decide) ?_
                          refine v_aloadn C dL_act_665 rfl ?_
                          refine v_iconst C dL_act_666 (v := 1) (by decide) ?_
                          refine v_iloadn C dL_act_667 rfl ?_
                          refine v_bipush C dL_act_668 (v := 60) (by decide) ?_
                          obtain ⟨r134, e133, hsh⟩ := obp_e hsh
                          refine v_callS (nP := 2) C (c_L_low l D t ad hI  (G := G) e133) k391 k389 k390 k0 yo_L_low ⟨Nat.le_of_ble_eq_true rfl, Nat.le_of_ble_eq_true rfl, rfl, rfl, Nat.zero_le _, Nat.zero_le _⟩ rfl rfl (Nat.le_of_ble_eq_true rfl) dL_act_670 ?_
                          refine v_iadd C dL_act_673 ?_
                          refine v_iconst C dL_act_674 (v := 1) (by decide) ?_
                          refine v_iloadn C dL_act_675 rfl ?_
                          refine v_bipush C dL_act_676 (v := 7) (by decide) ?_
                          refine v_ishr C dL_act_678 ?_
                          refine v_bipush C dL_act_679 (v := 60) (by decide) ?_
                          obtain ⟨r136, e135, hsh⟩ := obp_e hsh
                          refine v_callS (nP := 2) C (c_L_low l D t ad hI  (G := G) e135) k391 k389 k390 k0 yo_L_low ⟨Nat.le_of_ble_eq_true rfl, Nat.le_of_ble_eq_true rfl, rfl, rfl, Nat.zero_le _, Nat.zero_le _⟩ rfl rfl (Nat.le_of_ble_eq_true rfl) dL_act_681 ?_
                          refine v_iadd C dL_act_684 ?_
                          obtain ⟨r138, G139, e137, hsh⟩ := obi_e hsh
                          refine v_callS (nP := 3) C (c_L_passSo l D t ad hI  e137) k473 k471 k472 k0 yo_L_passSo ⟨Nat.le_of_ble_eq_true rfl, Nat.le_of_ble_eq_true rfl, rfl, rfl, Nat.zero_le _, Nat.zero_le _⟩ rfl rfl (Nat.le_of_ble_eq_true rfl) dL_act_685 ?_
                          obtain ⟨hnb, hsh⟩ := g_if hsh
                          obtain ⟨rfl, rfl⟩ := so_i hsh
                          exact v_zret C (nbB_n hnb) dL_act_688
                        · replace hsh := ite_n h11 hsh
                          by_cases h12 : r6 = (12 : Int32)
                          · replace hsh := ite_p h12 hsh
                            refine v_tabIn C 689 dL_act_23 (by rw [h12]; decide) (by rw [h12]; decide) (off := 666) (by rw [h12]; rfl) (by decide) ?_
                            refine v_aloadn C dL_act_689 rfl ?_
                            obtain ⟨r141, G142, e140, hsh⟩ := obi_e hsh
                            refine v_callS (nP := 1) C (c_L_togetherSo l D t ad hI  e140) k385 k383 k384 k0 yo_L_togetherSo ⟨Nat.le_of_ble_eq_true rfl, Nat.le_of_ble_eq_true rfl, rfl, rfl, Nat.zero_le _, Nat.zero_le _⟩ rfl rfl (Nat.le_of_ble_eq_true rfl) dL_act_690 ?_
                            refine v_if_eq C 707 dL_act_693 (by decide) (fun hc => ?_) (fun hc => ?_)
                            · replace hsh := ite_p hc hsh
                              refine v_iconst C dL_act_707 (v := 0) (by decide) ?_
                              obtain ⟨rfl, rfl⟩ := so_i hsh
                              exact v_zret C (Or.inl rfl) dL_act_708
                            · replace hsh := ite_n hc hsh
                              refine v_aloadn C dL_act_696 rfl ?_
                              obtain ⟨r144, G145, e143, hsh⟩ := obi_e hsh
                              refine v_callS (nP := 1) C (c_L_nextSo l D t ad hI  e143) k352 k350 k351 k0 yo_L_nextSo ⟨Nat.le_of_ble_eq_true rfl, Nat.le_of_ble_eq_true rfl, rfl, rfl, Nat.zero_le _, Nat.zero_le _⟩ rfl rfl (Nat.le_of_ble_eq_true rfl) dL_act_697 ?_
                              refine v_if_eq C 707 dL_act_700 (by decide) (fun hc => ?_) (fun hc => ?_)
                              · replace hsh := ite_p hc hsh
                                refine v_iconst C dL_act_707 (v := 0) (by decide) ?_
                                obtain ⟨rfl, rfl⟩ := so_i hsh
                                exact v_zret C (Or.inl rfl) dL_act_708
                              · replace hsh := ite_n hc hsh
                                refine v_iconst C dL_act_703 (v := 1) (by decide) ?_
                                refine v_goto C 708 dL_act_704 (by decide) ?_
                                obtain ⟨rfl, rfl⟩ := so_i hsh
                                exact v_zret C (Or.inr rfl) dL_act_708
                          · replace hsh := ite_n h12 hsh
                            by_cases h13 : r6 = (13 : Int32)
                            · replace hsh := ite_p h13 hsh
                              refine v_tabIn C 709 dL_act_23 (by rw [h13]; decide) (by rw [h13]; decide) (off := 686) (by rw [h13]; rfl) (by decide) ?_
                              refine v_iloadn C dL_act_709 rfl ?_
                              refine v_iconst C dL_act_710 (v := 4) (by decide) ?_
                              obtain ⟨r147, e146, hsh⟩ := obp_e hsh
                              refine v_callS (nP := 2) C (c_L_low l D t ad hI  (G := G) e146) k391 k389 k390 k0 yo_L_low ⟨Nat.le_of_ble_eq_true rfl, Nat.le_of_ble_eq_true rfl, rfl, rfl, Nat.zero_le _, Nat.zero_le _⟩ rfl rfl (Nat.le_of_ble_eq_true rfl) dL_act_711 ?_
                              refine v_if_gt C 724 dL_act_714 (by decide) (fun hc => ?_) (fun hc => ?_)
                              · replace hsh := ite_p hc hsh
                                refine v_iconst C dL_act_724 (v := 1) (by decide) ?_
                                refine v_goto C 729 dL_act_725 (by decide) ?_
                                obtain ⟨rfl, rfl⟩ := so_i hsh
                                exact v_zret C (Or.inr rfl) dL_act_729
                              · replace hsh := ite_n hc hsh
                                refine v_aloadn C dL_act_717 rfl ?_
                                obtain ⟨r149, G150, e148, hsh⟩ := obi_e hsh
                                refine v_callS (nP := 1) C (c_L_bestSo l D t ad hI  e148) k476 k474 k475 k0 yo_L_bestSo ⟨Nat.le_of_ble_eq_true rfl, Nat.le_of_ble_eq_true rfl, rfl, rfl, Nat.zero_le _, Nat.zero_le _⟩ rfl rfl (Nat.le_of_ble_eq_true rfl) dL_act_718 ?_
                                refine v_if_eq C 728 dL_act_721 (by decide) (fun hc => ?_) (fun hc => ?_)
                                · replace hsh := ite_p hc hsh
                                  refine v_iconst C dL_act_728 (v := 0) (by decide) ?_
                                  obtain ⟨rfl, rfl⟩ := so_i hsh
                                  exact v_zret C (Or.inl rfl) dL_act_729
                                · replace hsh := ite_n hc hsh
                                  refine v_iconst C dL_act_724 (v := 1) (by decide) ?_
                                  refine v_goto C 729 dL_act_725 (by decide) ?_
                                  obtain ⟨rfl, rfl⟩ := so_i hsh
                                  exact v_zret C (Or.inr rfl) dL_act_729
                            · replace hsh := ite_n h13 hsh
                              refine v_tabOut C 730 dL_act_23 (by have e0 := ne_toInt h0; have e1 := ne_toInt h1; have e2 := ne_toInt h2; have e3 := ne_toInt h3; have e4 := ne_toInt h4; have e5 := ne_toInt h5; have e6 := ne_toInt h6; have e7 := ne_toInt h7; have e8 := ne_toInt h8; have e9 := ne_toInt h9; have e10 := ne_toInt h10; have e11 := ne_toInt h11; have e12 := ne_toInt h12; have e13 := ne_toInt h13; have w0 : (0 : Int32).toInt = 0 := (by decide); have w1 : (1 : Int32).toInt = 1 := (by decide); have w2 : (2 : Int32).toInt = 2 := (by decide); have w3 : (3 : Int32).toInt = 3 := (by decide); have w4 : (4 : Int32).toInt = 4 := (by decide); have w5 : (5 : Int32).toInt = 5 := (by decide); have w6 : (6 : Int32).toInt = 6 := (by decide); have w7 : (7 : Int32).toInt = 7 := (by decide); have w8 : (8 : Int32).toInt = 8 := (by decide); have w9 : (9 : Int32).toInt = 9 := (by decide); have w10 : (10 : Int32).toInt = 10 := (by decide); have w11 : (11 : Int32).toInt = 11 := (by decide); have w12 : (12 : Int32).toInt = 12 := (by decide); have w13 : (13 : Int32).toInt = 13 := (by decide); omega) (by decide) ?_
                              refine v_aloadn C dL_act_730 rfl ?_
                              refine v_iloadn C dL_act_731 rfl ?_
                              obtain ⟨r152, G153, e151, hsh⟩ := obi_e hsh
                              refine v_callS (nP := 2) C (c_L_twins l D t ad hI  e151) k479 k477 k478 k0 yo_L_twins ⟨Nat.le_of_ble_eq_true rfl, Nat.le_of_ble_eq_true rfl, rfl, rfl, Nat.zero_le _, Nat.zero_le _⟩ rfl rfl (Nat.le_of_ble_eq_true rfl) dL_act_732 ?_
                              obtain ⟨hnb, hsh⟩ := g_if hsh
                              obtain ⟨rfl, rfl⟩ := so_i hsh
                              exact v_zret C (nbB_n hnb) dL_act_735
theorem yo_L_act : yOk yL_act 3 := ⟨by decide, by decide, by decide +kernel⟩
