-- one act of the law
def AO (n : Nat) (o : Option (Int32 × gG)) : Prop := ∃ G' a', o = some (1, G') ∧ SC G' a' [] ∧ inv n a'
theorem A_come {G : gG} {a : AM} {n : Nat} (S : SC G a []) (hv : inv n a) (w : Int32) : AO (n + 450) (obp (sh_X3_count (1 : Int32) G) fun r8 => (obp (sh_X3_count (9 : Int32) G) fun r10 => (obp (sh_L_low (w >>> ((2 : Int32) &&& 31)) r10) fun r12 => (obp (sh_L_low (w >>> ((9 : Int32) &&& 31)) (101 : Int32)) fun r14 => (obi (sh_X3_come r12 ((50 : Int32) + r14) G) fun r16 G17 => (if r8 = (16 : Int32) then (if r16 = (-3 : Int32) then some ((1 : Int32), G17) else some ((0 : Int32), G17)) else (if r16 < (0 : Int32) then some ((0 : Int32), G17) else (obp (sh_X3_count (1 : Int32) G17) fun r19 => (if r19 = (r8 + (1 : Int32)) then (obp (sh_L_isOn r16 G17) fun r21 => (if r21 = (0 : Int32) then some ((0 : Int32), G17) else (obp (sh_X3_lamp r16 (6 : Int32) G17) fun r23 => (if r23 = (0 : Int32) then some ((1 : Int32), G17) else some ((0 : Int32), G17))))) else some ((0 : Int32), G17)))))))))) := by
  have hc := cnt_le (aT a) 16
  obtain ⟨per, p1, p2, p3⟩ := per_n hv.1
  obtain ⟨p, hp1, hp2⟩ := low_f (w >>> ((2 : Int32) &&& 31)) (n := per) (by omega) (by omega)
  obtain ⟨r, hr1, hr2⟩ := low_f (w >>> ((9 : Int32) &&& 31)) (n := 101) (by decide) (by decide)
  have hr2' : sh_L_low (w >>> ((9 : Int32) &&& 31)) 101 = some (nI r) := hr2
  have hadd : (50 : Int32) + nI r = nI (50 + r) := nI_add 50 r
  have eper : (aG a 5).toInt = per := by rw [p1]; exact nI_toInt (by omega)
  rw [qk1 S, obp_s, qk9 S, obp_s, p1, hp2, obp_s, hr2', obp_s, hadd]
  by_cases q : cnt (aT a) 16 = 16
  · have hall : ∀ i, i < 16 → aT a i = true := by
      rcases fr_c a with h | ⟨i, h⟩
      · exact h
      · have h2 := cnt_lt (S := aT a) (S' := fun _ => true) (m := 16) (fun _ _ _ => rfl) ⟨i, h.1, h.2.1, rfl⟩
        have h3 := cnt_le (fun _ => true) 16
        omega
    rw [(qc_come (p := p) (r := 50 + r) S l03 (by omega) (by omega)).1 hall, obi_s, if_pos (by rw [q]; rfl), if_pos rfl]
    exact ⟨G, a, rfl, S, hv.mono (by omega)⟩
  · obtain ⟨i, G11, f1, e11, S11, v11⟩ := M_come (p := p) (r := 50 + r) S l03 hv (by omega) (by omega) (by omega)
    have hi := f1.1
    have hti : aT (sLay a i (nI p * 100) (nI (50 + r))) i = true := by
      show (aT a i || decide (i = i)) = true
      simp
    have hoi : aO (sLay a i (nI p * 100) (nI (50 + r))) i = true := by
      show (aO a i || decide (i = i)) = true
      simp
    rw [e11, obi_s, if_neg (show ¬ nI (cnt (aT a) 16) = 16 from fun h => q (nI_inj (by omega) (by omega) (show nI (cnt (aT a) 16) = nI 16 from h))), if_neg (nI_pos (by omega)), qk1 S11, obp_s, lay_cnt hi f1.2.1, if_pos (nI_1 _).symm, L_isOn S11 hi, obp_s, hoi, if_neg (b_t rfl), ql6 S11 hi hti, obp_s, if_pos ((bS_0 _).mpr (fun c _ => by
      show (if i = i then false else _) = false
      rw [if_pos rfl]))]
    exact ⟨G11, _, rfl, S11, v11.mono (by omega)⟩
set_option maxHeartbeats 1000000 in
theorem A_away {G : gG} {a : AM} {n x : Nat} (S : SC G a []) (hv : inv n a) (hx : x < 16) (w : Int32) : AO (n + 450) (obl (sh_L_tale G) fun r42 => (sh_L_act_206 (fun l2 l3 w5 l7 G => (sh_L_act_j244 l2 l3 w5 l7 G)) FU w (nI x) r42 (0 : Int32) (0 : Int32) G)) := by
  rw [L_tale S, obl_s]
  cases ht : aT a x
  · have e : sh_L_act_206 (fun l2 l3 w5 l7 G => (sh_L_act_j244 l2 l3 w5 l7 G)) FU w (nI x) (tB a 160) 0 0 G = sh_L_act_j244 w (nI x) (tB a 160) 0 G := by
      obtain ⟨f, hf⟩ : ∃ f, FU = f + 1 := ⟨3999, rfl⟩
      rw [hf, sh_L_act_206.eq_2, if_neg (by decide), L_isThere S hx, obp_s, ht, if_pos (b_f rfl)]
    rw [e]
    unfold sh_L_act_j244
    rw [L_isThere S hx, obp_s, ht, if_pos (b_f rfl), qc_goAway_f S (none_i hx ht), obi_s, if_pos rfl, L_tale S, obl_s, lgc, if_pos rfl]
    exact ⟨G, a, rfl, S, hv.mono (by omega)⟩
  · obtain ⟨s, _, h2⟩ := forl 16 (fun m k (_ : Unit) => sh_L_act_206 (fun l2 l3 w5 l7 G => (sh_L_act_j244 l2 l3 w5 l7 G)) m w (nI x) (tB a 160) (nI (cnt (aL a x) k)) (nI k) G) (fun _ _ => True) (fun _ => sh_L_act_j244 w (nI x) (tB a 160) (nI (cnt (aL a x) 16)) G) (by
      intro m s _
      show sh_L_act_206 _ (m + 1) _ _ _ _ (nI 16) _ = _
      rw [sh_L_act_206.eq_2, if_pos (by decide)]) (by
      intro m k s hk _
      refine ⟨(), trivial, ?_⟩
      show sh_L_act_206 _ (m + 1) _ _ _ _ (nI k) _ = _
      rw [sh_L_act_206.eq_2, if_neg (nj16 hk), L_isThere S hx, obp_s, ht, if_neg (b_t rfl), ql6 S hx ht, obp_s, bit_is hk, bni_s, cnt_b2i, nI_1 k]) 16 0 FU () rfl (by decide) trivial
    have h2' : sh_L_act_206 (fun l2 l3 w5 l7 G => (sh_L_act_j244 l2 l3 w5 l7 G)) FU w (nI x) (tB a 160) 0 0 G = _ := h2
    rw [h2']
    obtain ⟨G58, e58, S58⟩ := qc_goAway S l03 hx ht
    have hf : aT (sDel a x) x = false := by
      show (aT a x && !decide (x = x)) = false
      simp
    obtain ⟨r, r1, r2⟩ := low_f (w >>> ((4 : Int32) &&& 31)) (n := 3) (by decide) (by decide)
    have r2' : sh_L_low (w >>> ((4 : Int32) &&& 31)) 3 = some (nI r) := r2
    unfold sh_L_act_j244
    rw [L_isThere S hx, obp_s, ht, if_neg (b_t rfl), e58, obi_s, if_pos rfl, L_isThere S58 hx, obp_s, hf, if_pos (b_f rfl), r2', obp_s]
    by_cases q : nI r = 0
    · rw [if_pos q]
      exact ⟨G58, _, rfl, S58.weak, (inv_del hv).mono (by omega)⟩
    · obtain ⟨u, G65, u1, e65, S65⟩ := qc_undo S58
      rw [if_neg q, e65, obi_s, if_neg (nI_nn u1), L_tale S65, obl_s, lgc, if_pos rfl]
      exact ⟨G65, a, rfl, S65, hv.mono (by omega)⟩
theorem A_turn {G : gG} {a : AM} {n x : Nat} (S : SC G a []) (hv : inv n a) (hx : x < 16) (b : Bool) : AO (n + 450) (sh_L_act_j345 (nI x) (b2i b) G) := by
  unfold sh_L_act_j345
  cases ht : aT a x
  · rw [qc_turn_f S (none_i hx ht), obi_s, L_isThere S hx, obp_s, ht, if_pos (b_f rfl), if_pos rfl]
    exact ⟨G, a, rfl, S, hv.mono (by omega)⟩
  · have h := qc_turn (b := b) S l03 hx ht
    by_cases q : aO a x = b
    · rw [h.1 q, obi_s, L_isThere S hx, obp_s, ht, if_neg (b_t rfl), if_pos rfl]
      unfold sh_L_act_j395
      rw [L_isOn S hx, obp_s, if_pos (by rw [q])]
      exact ⟨G, a, rfl, S, hv.mono (by omega)⟩
    · obtain ⟨G72, e72, S72⟩ := h.2 q
      have hc := cnt_le (aO (sOn a x b)) 16
      have hm5 : ¬ nI (cnt (aO (sOn a x b)) 16) = -5 := m5_ne (by omega)
      have hT : aT (sOn a x b) x = true := ht
      have hO : aO (sOn a x b) x = b := by
        show (if x = x then b else _) = b
        rw [if_pos rfl]
      rw [e72, obi_s, L_isThere S72 hx, obp_s, hT, if_neg (b_t rfl), if_neg hm5, qk2 S72, obp_s, if_pos rfl]
      unfold sh_L_act_j395
      rw [L_isOn S72 hx, obp_s, hO, if_pos rfl]
      exact ⟨G72, _, rfl, S72.weak, (inv_on hv ht).mono (by omega)⟩
theorem M_any {G : gG} {a : AM} {n x y : Nat} (S : SC G a []) (hv : inv n a) (hx : x < 16) (hy : y < 16) (b : Bool) : ∃ r G' a', sh_X3_link (nI x) (nI y) (b2i b) G = some (r, G') ∧ ¬ r < -5 ∧ SC G' a' [] ∧ inv n a' := by
  cases htx : aT a x
  · exact ⟨-1, G, a, qc_link_f S (Or.inl (none_i hx htx)), by decide, S, hv⟩
  · cases hty : aT a y
    · exact ⟨-1, G, a, qc_link_f S (Or.inr (none_i hy hty)), by decide, S, hv⟩
    · by_cases hxy : x = y
      · subst hxy
        exact ⟨-2, G, a, qc_link_e S hx htx, by decide, S, hv⟩
      · have h := qc_link (b := b) S l03 hx hy htx hty hxy
        by_cases q : aL a x y = b
        · exact ⟨-5, G, a, h.1 q, by decide, S, hv⟩
        · obtain ⟨G', e, S'⟩ := h.2 q
          rw [qk3'] at e
          have hle := lk_le (sLink a x y b)
          refine ⟨_, G', _, e, ?_, S'.weak, inv_link hv hx hy htx hty hxy⟩
          have e5 : (-5 : Int32).toInt = -5 := by decide
          rw [I_lt, nI_toInt (by omega), e5]
          omega
theorem A_link {G : gG} {a : AM} {n x y : Nat} (S : SC G a []) (hv : inv n a) (hx : x < 16) (hy : y < 16) (b : Bool) : AO (n + 450) (obi (sh_X3_link (nI x) (nI y) (b2i b) G) fun r85 G86 => (if r85 < (-5 : Int32) then some ((0 : Int32), G86) else some ((1 : Int32), G86))) := by
  obtain ⟨r, G', a', e, hr, S', v'⟩ := M_any S hv hx hy b
  rw [e, obi_s, if_neg hr]
  exact ⟨G', a', rfl, S', v'.mono (by omega)⟩
theorem A_linked {G : gG} {a : AM} {n x y : Nat} (S : SC G a []) (hv : inv n a) (hx : x < 16) (hy : y < 16) (w : Int32) : AO (n + 450) (obi (sh_L_linkedSo (nI x) (nI y) G) fun r80 G81 => (if r80 = (0 : Int32) then some ((0 : Int32), G81) else (obp (sh_L_low (w >>> ((6 : Int32) &&& 31)) (4 : Int32)) fun r83 => (if r83 ≤ (0 : Int32) then (sh_L_act_j441 (nI x) (nI y) (0 : Int32) G81) else (sh_L_act_j441 (nI x) (nI y) (1 : Int32) G81))))) := by
  obtain ⟨G81, e, S'⟩ := L_linkedSo S hv hx hy
  obtain ⟨r, r1, r2⟩ := low_f (w >>> ((6 : Int32) &&& 31)) (n := 4) (by decide) (by decide)
  have r2' : sh_L_low (w >>> ((6 : Int32) &&& 31)) 4 = some (nI r) := r2
  rw [e, obi_s, if_neg n10, r2', obp_s]
  by_cases q : nI r ≤ 0
  · rw [if_pos q]
    exact A_link S' hv hx hy false
  · rw [if_neg q]
    exact A_link S' hv hx hy true
theorem A_tune {G : gG} {a : AM} {n x : Nat} (S : SC G a []) (hv : inv n a) (hx : x < 16) (w : Int32) : AO (n + 450) (obp (sh_X3_lamp (nI x) (0 : Int32) G) fun r102 => (obp (sh_X3_count (9 : Int32) G) fun r104 => (obp (sh_L_low (w >>> ((4 : Int32) &&& 31)) r104) fun r106 => (obi (sh_X3_tune (nI x) r106 (100 : Int32) G) fun r108 G109 => (if r108 = r102 then (if r102 < (0 : Int32) then some ((1 : Int32), G109) else (obp (sh_X3_lamp (nI x) (0 : Int32) G109) fun r111 => (obp (sh_X3_count (9 : Int32) G109) fun r113 => (obp (sh_L_low (w >>> ((4 : Int32) &&& 31)) r113) fun r115 => (if r111 = ((100 : Int32) * r115) then (obp (sh_X3_lamp (nI x) (1 : Int32) G109) fun r117 => (if r117 = (100 : Int32) then some ((1 : Int32), G109) else some ((0 : Int32), G109))) else some ((0 : Int32), G109)))))) else some ((0 : Int32), G109)))))) := by
  obtain ⟨per, p1, p2, p3⟩ := per_n hv.1
  obtain ⟨p, hp1, hp2⟩ := low_f (w >>> ((4 : Int32) &&& 31)) (n := per) (by omega) (by omega)
  have eper : (aG a 5).toInt = per := by rw [p1]; exact nI_toInt (by omega)
  cases ht : aT a x
  · rw [qc_lamp_f S (none_i hx ht), obp_s, qk9 S, obp_s, p1, hp2, obp_s, qc_tune_f S (none_i hx ht), obi_s, if_pos rfl, if_pos (by decide)]
    exact ⟨G, a, rfl, S, hv.mono (by omega)⟩
  · have hph := (hv.1.2.2.2.1 x hx ht).1
    obtain ⟨G109, e, S'⟩ := qc_tune (p := p) (r := 100) S l03 hx ht (by omega) (by decide)
    have e' : sh_X3_tune (nI x) (nI p) 100 G = some (aN a 1 x, G109) := e
    have hT : aT (sTune a x (nI p * 100) (nI 100)) x = true := ht
    have g5 : aG (sTune a x (nI p * 100) (nI 100)) 5 = nI per := p1
    have n1 : aN (sTune a x (nI p * 100) (nI 100)) 1 x = nI p * 100 := by
      show (if (1 : Nat) = 2 ∧ x = x then nI 100 else if (1 : Nat) = 1 ∧ x = x then nI p * 100 else aN a 1 x) = _
      rw [if_neg (by omega), if_pos ⟨rfl, rfl⟩]
    have n2 : aN (sTune a x (nI p * 100) (nI 100)) 2 x = nI 100 := by
      show (if (2 : Nat) = 2 ∧ x = x then nI 100 else _) = _
      rw [if_pos ⟨rfl, rfl⟩]
    rw [ql0 S hx ht, obp_s, qk9 S, obp_s, p1, hp2, obp_s, e', obi_s, if_pos rfl, if_neg (by rw [I_lt, I_0]; omega), ql0 S' hx hT, obp_s, qk9 S', obp_s, g5, hp2, obp_s, n1, if_pos (Int32.mul_comm _ _), ql1 S' hx hT, obp_s, n2, if_pos (show nI 100 = 100 from rfl)]
    exact ⟨G109, _, rfl, S'.weak, (inv_tune hv S'.2.1).mono (by omega)⟩
theorem A_set {G : gG} {a : AM} {n u : Nat} {v : Int32} (S : SC G a []) (hv : inv n a) (hu : u < 3) (h1 : (lstT u).toInt ≤ v.toInt) (h2 : v.toInt ≤ (grtT u).toInt) : AO (n + 450) (sh_L_act_j607 (nI u) v G) := by
  have hk : ∀ {G : gG} {a : AM} {us : List AM}, SC G a us → sh_X3_count ((9 : Int32) + nI u) G = some (aG a (5 + u)) := fun {G a us} S => by
    have e : (9 : Int32) + nI u = nI (9 + u) := nI_add 9 u
    rw [e, qc_count S (by omega)]
    unfold vC
    rw [if_neg (by omega), if_neg (by omega), if_neg (by omega), if_neg (by omega), if_neg (by omega), show 9 + u - 4 = 5 + u by omega]
  have h := qc_set S l03 hu h1 h2
  unfold sh_L_act_j607
  rw [hk S, obp_s]
  by_cases q : aG a (5 + u) = v
  · rw [h.1 q, obi_s, if_pos q]
    unfold sh_L_act_j642
    rw [if_pos rfl, hk S, obp_s, if_pos q]
    exact ⟨G, a, rfl, S, hv.mono (by omega)⟩
  · obtain ⟨G', e, S'⟩ := h.2 q
    have g : aG (sSet a u v) (5 + u) = v := by
      show (if 5 + u = 5 + u then v else _) = v
      rw [if_pos rfl]
    rw [e, obi_s, if_neg q]
    unfold sh_L_act_j642
    rw [if_pos rfl, hk S', obp_s, if_pos g]
    exact ⟨G', _, rfl, S'.weak, (inv_set hv S'.2.1).mono (by omega)⟩
set_option maxHeartbeats 4000000 in
theorem L_act {G : gG} {a : AM} {n : Nat} (S : SC G a []) (hv : inv n a) (hn : n ≤ 50000) (v w : Int32) : AO (n + 450) (sh_L_act v w G) := by
  obtain ⟨x, x1, x2⟩ := low_f w (n := 6) (by decide) (by decide)
  obtain ⟨y, y1, y2⟩ := low_f (w >>> ((3 : Int32) &&& 31)) (n := 6) (by decide) (by decide)
  obtain ⟨c, c1, c2⟩ := low_f v (n := 15) (by decide) (by decide)
  have x2' : sh_L_low w 6 = some (nI x) := x2
  have y2' : sh_L_low (w >>> ((3 : Int32) &&& 31)) 6 = some (nI y) := y2
  have c2' : sh_L_low v 15 = some (nI c) := c2
  have hx : x < 16 := by omega
  have hy : y < 16 := by omega
  unfold sh_L_act
  rw [x2', obp_s, y2', obp_s, c2', obp_s]
  rcases (show c = 0 ∨ c = 1 ∨ c = 2 ∨ c = 3 ∨ c = 4 ∨ c = 5 ∨ c = 6 ∨ c = 7 ∨ c = 8 ∨ c = 9 ∨ c = 10 ∨ c = 11 ∨ c = 12 ∨ c = 13 ∨ c = 14 by omega) with rfl | rfl | rfl | rfl | rfl | rfl | rfl | rfl | rfl | rfl | rfl | rfl | rfl | rfl | rfl
  · rw [if_pos (by decide)]
    exact A_come S hv w
  · rw [if_neg (by decide), if_pos (by decide)]
    exact A_come S hv w
  · rw [if_neg (by decide), if_neg (by decide), if_pos (by decide)]
    exact A_away S hv hx w
  · rw [if_neg (by decide), if_neg (by decide), if_neg (by decide), if_pos (by decide)]
    obtain ⟨r, r1, r2⟩ := low_f (w >>> ((4 : Int32) &&& 31)) (n := 3) (by decide) (by decide)
    have r2' : sh_L_low (w >>> ((4 : Int32) &&& 31)) 3 = some (nI r) := r2
    rw [r2', obp_s]
    by_cases q : nI r ≤ 0
    · rw [if_pos q]; exact A_turn S hv hx false
    · rw [if_neg q]; exact A_turn S hv hx true
  · rw [if_neg (by decide), if_neg (by decide), if_neg (by decide), if_neg (by decide), if_pos (by decide)]
    exact A_linked S hv hx hy w
  · rw [if_neg (by decide), if_neg (by decide), if_neg (by decide), if_neg (by decide), if_neg (by decide), if_pos (by decide)]
    exact A_linked S hv hx hy w
  · rw [if_neg (by decide), if_neg (by decide), if_neg (by decide), if_neg (by decide), if_neg (by decide), if_neg (by decide), if_pos (by decide)]
    exact A_link S hv hx hy true
  · rw [if_neg (by decide), if_neg (by decide), if_neg (by decide), if_neg (by decide), if_neg (by decide), if_neg (by decide), if_neg (by decide), if_pos (by decide)]
    exact A_link S hv hx hy true
  · rw [if_neg (by decide), if_neg (by decide), if_neg (by decide), if_neg (by decide), if_neg (by decide), if_neg (by decide), if_neg (by decide), if_neg (by decide), if_pos (by decide)]
    exact A_link S hv hx hy true
  · rw [if_neg (by decide), if_neg (by decide), if_neg (by decide), if_neg (by decide), if_neg (by decide), if_neg (by decide), if_neg (by decide), if_neg (by decide), if_neg (by decide), if_pos (by decide)]
    exact A_tune S hv hx w
  · rw [if_neg (by decide), if_neg (by decide), if_neg (by decide), if_neg (by decide), if_neg (by decide), if_neg (by decide), if_neg (by decide), if_neg (by decide), if_neg (by decide), if_neg (by decide), if_pos (by decide)]
    obtain ⟨u, u1, u2⟩ := low_f w (n := 3) (by decide) (by decide)
    have u2' : sh_L_low w 3 = some (nI u) := u2
    obtain ⟨r0, r01, r02⟩ := low_f (w >>> ((2 : Int32) &&& 31)) (n := 60) (by decide) (by decide)
    have r02' : sh_L_low (w >>> ((2 : Int32) &&& 31)) 60 = some (nI r0) := r02
    obtain ⟨r1, r11, r12⟩ := low_f (w >>> ((2 : Int32) &&& 31)) (n := 101) (by decide) (by decide)
    have r12' : sh_L_low (w >>> ((2 : Int32) &&& 31)) 101 = some (nI r1) := r12
    obtain ⟨r2, r21, r22⟩ := low_f (w >>> ((2 : Int32) &&& 31)) (n := 6) (by decide) (by decide)
    have r22' : sh_L_low (w >>> ((2 : Int32) &&& 31)) 6 = some (nI r2) := r22
    have l0 : (lstT 0).toInt = 10 := by decide
    have l1 : (lstT 1).toInt = 0 := by decide
    have l2 : (lstT 2).toInt = 0 := by decide
    have g0 : (grtT 0).toInt = 200 := by decide
    have g1 : (grtT 1).toInt = 100 := by decide
    have g2 : (grtT 2).toInt = 99 := by decide
    rw [u2', obp_s]
    rcases (show u = 0 ∨ u = 1 ∨ u = 2 by omega) with rfl | rfl | rfl
    · have e10 : (10 : Int32) + nI r0 = nI (10 + r0) := nI_add 10 r0
      rw [if_pos (by decide), r02', obp_s, e10]
      exact A_set S hv (by decide) (by rw [nI_toInt (by omega)]; omega) (by rw [nI_toInt (by omega)]; omega)
    · rw [if_neg (by decide), if_pos (by decide), r12', obp_s]
      exact A_set S hv (by decide) (by rw [nI_toInt (by omega)]; omega) (by rw [nI_toInt (by omega)]; omega)
    · rw [if_neg (by decide), if_neg (by decide), r22', obp_s]
      exact A_set S hv (by decide) (by rw [nI_toInt (by omega)]; omega) (by rw [nI_toInt (by omega)]; omega)
  · rw [if_neg (by decide), if_neg (by decide), if_neg (by decide), if_neg (by decide), if_neg (by decide), if_neg (by decide), if_neg (by decide), if_neg (by decide), if_neg (by decide), if_neg (by decide), if_neg (by decide), if_pos (by decide)]
    obtain ⟨p, p1, p2⟩ := low_f w (n := 60) (by decide) (by decide)
    have p2' : sh_L_low w 60 = some (nI p) := p2
    obtain ⟨q, q1, q2⟩ := low_f (w >>> ((7 : Int32) &&& 31)) (n := 60) (by decide) (by decide)
    have q2' : sh_L_low (w >>> ((7 : Int32) &&& 31)) 60 = some (nI q) := q2
    have ep : (1 : Int32) + nI p = nI (1 + p) := nI_add 1 p
    have eq : (1 : Int32) + nI q = nI (1 + q) := nI_add 1 q
    obtain ⟨G', e, S'⟩ := L_passSo (p := 1 + p) (q := 1 + q) S hv hn (by omega) (by omega)
    rw [p2', obp_s, q2', obp_s, ep, eq, e, obi_s, if_pos (by decide)]
    exact ⟨G', _, rfl, S'.weak, (inv_ticks (1 + p + (1 + q)) n hv (by omega)).mono (by omega)⟩
  · rw [if_neg (by decide), if_neg (by decide), if_neg (by decide), if_neg (by decide), if_neg (by decide), if_neg (by decide), if_neg (by decide), if_neg (by decide), if_neg (by decide), if_neg (by decide), if_neg (by decide), if_neg (by decide), if_pos (by decide)]
    obtain ⟨G1, e1, S1⟩ := L_togetherSo S hv hn
    obtain ⟨G2, e2, S2⟩ := L_nextSo S1 hv hn
    rw [e1, obi_s, if_neg n10, e2, obi_s, if_neg n10]
    exact ⟨G2, a, rfl, S2, hv.mono (by omega)⟩
  · rw [if_neg (by decide), if_neg (by decide), if_neg (by decide), if_neg (by decide), if_neg (by decide), if_neg (by decide), if_neg (by decide), if_neg (by decide), if_neg (by decide), if_neg (by decide), if_neg (by decide), if_neg (by decide), if_neg (by decide), if_pos (by decide)]
    obtain ⟨r, r1, r2⟩ := low_f w (n := 4) (by decide) (by decide)
    have r2' : sh_L_low w 4 = some (nI r) := r2
    rw [r2', obp_s]
    by_cases q : 0 < nI r
    · rw [if_pos q]
      exact ⟨G, a, rfl, S, hv.mono (by omega)⟩
    · obtain ⟨G1, e1, S1⟩ := L_bestSo S hv hn
      rw [if_neg q, e1, obi_s, if_neg n10]
      exact ⟨G1, a, rfl, S1, hv.mono (by omega)⟩
  · rw [if_neg (by decide), if_neg (by decide), if_neg (by decide), if_neg (by decide), if_neg (by decide), if_neg (by decide), if_neg (by decide), if_neg (by decide), if_neg (by decide), if_neg (by decide), if_neg (by decide), if_neg (by decide), if_neg (by decide), if_neg (by decide)]
    obtain ⟨G1, a1, e1, S1, v1⟩ := L_twins S hv hn w
    rw [e1, obi_s, if_pos (by decide)]
    exact ⟨G1, a1, rfl, S1, v1⟩
