-- two lamps that come alike
theorem cnt_all {S : Nat → Bool} : ∀ {m : Nat}, (∀ i, i < m → S i = true) → cnt S m = m
  | 0, _ => rfl
  | m + 1, h => by
    show cnt S m + (S m).toNat = m + 1
    rw [cnt_all (fun i hi => h i (by omega)), h m (by omega)]; rfl
theorem fr_of {a : AM} (h : cnt (aT a) 16 < 16) : ∃ i, pFr a i := by
  rcases fr_c a with q | q
  · have := cnt_all q; omega
  · exact q
theorem lay_cnt {a : AM} {i : Nat} {ph rt : Int32} (hi : i < 16) (hf : aT a i = false) : cnt (aT (sLay a i ph rt)) 16 = cnt (aT a) 16 + 1 := by
  have h := cnt_set (S := aT a) (b := true) hi
  rw [hf] at h
  have e : cnt (aT (sLay a i ph rt)) 16 = cnt (fun c => if c = i then true else aT a c) 16 := cnt_congr (fun c _ => by
    show (aT a c || decide (c = i)) = _
    by_cases q : c = i
    · simp [q]
    · simp [q])
  rw [e]
  exact h
theorem no_link {a : AM} (hw : wf a) {i k : Nat} (hi : i < 16) (hk : k < 16) (hf : aT a i = false) : aL a i k = false ∧ aL a k i = false := by
  have h1 : aL a i k = false := by
    cases h : aL a i k
    · rfl
    · have := hw.2.2.1 i k hi hk h
      rw [hf] at this; cases this
  exact ⟨h1, by rw [hw.2.1 k i hk hi]; exact h1⟩
theorem per_n {a : AM} (hw : wf a) : ∃ p, aG a 5 = nI p ∧ 10 ≤ p ∧ p ≤ 200 := by
  have h1 := hw.2.2.2.2.1
  have h2 := hw.2.2.2.2.2.1
  obtain ⟨p, hp, e⟩ := nI_of (x := aG a 5) (by rw [I_lt, I_0]; omega)
  refine ⟨p, e, ?_⟩
  rw [e, nI_toInt hp] at h1 h2
  omega
/-- come, with the law's numbers -/
theorem M_come {G : gG} {a : AM} {us : List AM} {n p r : Nat} (S : SC G a us) (hl : us.length ≤ 3) (hv : inv n a) (hp : (p : Int) < (aG a 5).toInt) (hr : 50 ≤ r ∧ r ≤ 150) (hc : cnt (aT a) 16 < 16) : ∃ i G', pFr a i ∧ sh_X3_come (nI p) (nI r) G = some (nI i, G') ∧ SC G' (sLay a i (nI p * 100) (nI r)) [] ∧ inv n (sLay a i (nI p * 100) (nI r)) := by
  obtain ⟨i, hf⟩ := fr_of hc
  obtain ⟨G', e, S'⟩ := (qc_come S hl hp hr).2 i hf
  exact ⟨i, G', hf, e, S'.weak, inv_lay hv hf.1 hf.2.1 S'.2.1⟩
/-- a new link, with what it answers -/
theorem M_link {G : gG} {a : AM} {n i j : Nat} (S : SC G a []) (hv : inv n a) (hi : i < 16) (hj : j < 16) (hti : aT a i = true) (htj : aT a j = true) (hij : i ≠ j) (hl : aL a i j = false) : ∃ r G', sh_X3_link (nI i) (nI j) 1 G = some (nI r, G') ∧ 1 ≤ r ∧ r < 1000 ∧ SC G' (sLink a i j true) [] ∧ inv n (sLink a i j true) := by
  obtain ⟨G', e, S'⟩ := (qc_link (b := true) S l03 hi hj hti htj hij).2 (by rw [hl]; decide)
  rw [qk3'] at e
  have h1 := lk_link (b := true) hv.1 hi hj hij
  rw [hl] at h1
  have h1' : lkN (sLink a i j true) + 2 * 0 = lkN a + 2 * 1 := h1
  have h2 := lk_le (sLink a i j true)
  exact ⟨lkN (sLink a i j true) / 2, G', e, by omega, by omega, S'.weak, inv_link hv hi hj hti htj hij⟩
/-- what the loop over the others keeps -/
def TWI (n : Nat) (b : AM) (i j k : Nat) : Prop := inv n b ∧ tw b i j ∧ ∀ c, c < 16 → (k ≤ c ∨ c = i ∨ c = j) → aL b i c = false ∧ aL b j c = false
theorem sl_at (a : AM) (i j : Nat) (b : Bool) (r c : Nat) : aL (sLink a i j b) r c = if (r = i ∧ c = j) ∨ (r = j ∧ c = i) then b else aL a r c := rfl
theorem TWI_step {n : Nat} {b : AM} {i j k : Nat} (h : TWI n b i j k) (hk : k < 16) (hki : k ≠ i) (hkj : k ≠ j) (hv : inv n (sLink (sLink b i k true) j k true)) : TWI n (sLink (sLink b i k true) j k true) i j (k + 1) := by
  obtain ⟨h1, ⟨t1, t2, t3, t4, t5, t6, t7⟩, h3⟩ := h
  refine ⟨hv, ⟨t1, t2, t3, t4, t5, t6, fun c hc c1 c2 => ?_⟩, fun c hc hcc => ?_⟩
  · rw [sl_at, sl_at, sl_at, sl_at]
    by_cases q : c = k
    · rw [if_neg (by omega), if_pos (by omega), if_pos (by omega)]
    · rw [if_neg (by omega), if_neg (by omega), if_neg (by omega), if_neg (by omega)]
      exact t7 c hc c1 c2
  · rw [sl_at, sl_at, sl_at, sl_at]
    rw [if_neg (by omega), if_neg (by omega), if_neg (by omega), if_neg (by omega)]
    exact h3 c hc (by omega)
theorem TWI.s {n : Nat} {b : AM} {i j k : Nat} (h : TWI n b i j k) : TWI n b i j (k + 1) := ⟨h.1, h.2.1, fun c hc hcc => h.2.2 c hc (by omega)⟩
set_option maxHeartbeats 1000000 in
theorem L_tw1 {G : gG} {b : AM} {n i j : Nat} (S : SC G b []) (hT : TWI n b i j 0) (l1 : Int32) (kt : Int32 → Int32 → Int32 → gG → Option (Int32 × gG)) : ∃ G' b', sh_L_twins_55 kt FU l1 (nI i) (nI j) 0 G = kt l1 (nI i) (nI j) G' ∧ SC G' b' [] ∧ TWI n b' i j 16 := by
  obtain ⟨s, ⟨b', h1, h2⟩, h3⟩ := forl 16 (fun m k (s : gG) => sh_L_twins_55 kt m l1 (nI i) (nI j) (nI k) s) (fun k s => ∃ b', SC s b' [] ∧ TWI n b' i j k) (fun s => kt l1 (nI i) (nI j) s) (by
    intro m s _
    show sh_L_twins_55 kt (m + 1) _ _ _ (nI 16) _ = _
    rw [sh_L_twins_55.eq_2, if_pos (by decide)]) (by
    intro m k G hk ⟨b, S, hT⟩
    show ∃ s', _ ∧ sh_L_twins_55 kt (m + 1) _ _ _ (nI k) G = sh_L_twins_55 kt m _ _ _ (nI (k + 1)) s'
    have hi := hT.2.1.1
    have hj := hT.2.1.2.1
    have hij := hT.2.1.2.2.1
    have hw := hT.1.1
    have hti := hw.1 i hi hT.2.1.2.2.2.1
    have htj := hw.1 j hj hT.2.1.2.2.2.2.1
    rw [sh_L_twins_55.eq_2, if_neg (nj16 hk), nI_1 k]
    by_cases q1 : k = i
    · rw [if_pos (by rw [q1])]
      exact ⟨G, ⟨b, S, hT.s⟩, rfl⟩
    · rw [if_neg (fun h => q1 (nI_inj (by omega) (by omega) h))]
      by_cases q2 : k = j
      · rw [if_pos (by rw [q2])]
        exact ⟨G, ⟨b, S, hT.s⟩, rfl⟩
      · rw [if_neg (fun h => q2 (nI_inj (by omega) (by omega) h)), L_isThere S hk, obp_s, ifb0]
        cases htk : aT b k
        · exact ⟨G, ⟨b, S, hT.s⟩, rfl⟩
        · obtain ⟨r, r1, r2⟩ := low_f (l1 >>> (nI k &&& 31)) (n := 3) (by decide) (by decide)
          have r2' : sh_L_low (l1 >>> (nI k &&& 31)) 3 = some (nI r) := r2
          rw [if_pos rfl, r2', obp_s]
          by_cases q3 : nI r = 0
          · obtain ⟨c1, c2⟩ := hT.2.2 k hk (Or.inl (Nat.le_refl _))
            obtain ⟨x, G21, e21, x1, x2, S21, v21⟩ := M_link S hT.1 hi hk hti htk (Ne.symm q1) c1
            obtain ⟨y, G24, e24, y1, y2, S24, v24⟩ := M_link (i := j) (j := k) S21 v21 hj hk htj htk (Ne.symm q2) (by rw [sl_at, if_neg (by omega)]; exact c2)
            have o1 : (1 : Int32) = nI 1 := rfl
            rw [if_pos q3, e21, obi_s, if_neg (by rw [o1, nI_ltI (by omega) (by omega)]; omega), e24, obi_s, if_pos (by rw [o1, nI_leI (by omega) (by omega)]; omega)]
            exact ⟨G24, ⟨_, S24, TWI_step hT hk q1 q2 v24⟩, rfl⟩
          · rw [if_neg q3]
            exact ⟨G, ⟨b, S, hT.s⟩, rfl⟩) 16 0 FU G rfl (by decide) ⟨b, S, hT⟩
  exact ⟨s, b', h3, h1, h2⟩
set_option maxHeartbeats 1000000 in
theorem L_tw2 {G : gG} {b : AM} {n i j : Nat} (S : SC G b []) (hv : inv n b) (hn : n ≤ 50000) (hT : tw b i j) (l1 : Int32) : ∃ G' b', sh_L_twins_158 (fun G => some ((1 : Int32), G)) FU l1 (nI i) (nI j) 0 G = some (1, G') ∧ SC G' b' [] ∧ inv (n + 450) b' := by
  obtain ⟨s, ⟨b', h1, h2, h4⟩, h3⟩ := forl 5 (fun m k (s : gG) => sh_L_twins_158 (fun G => some ((1 : Int32), G)) m l1 (nI i) (nI j) (nI k) s) (fun k s => ∃ b', SC s b' [] ∧ inv (n + 90 * k) b' ∧ tw b' i j) (fun s => some (1, s)) (by
    intro m s _
    show sh_L_twins_158 _ (m + 1) _ _ _ (nI 5) _ = _
    rw [sh_L_twins_158.eq_2, if_pos (by decide)]) (by
    intro m k G hk ⟨b, S, hv, hT⟩
    show ∃ s', _ ∧ sh_L_twins_158 _ (m + 1) _ _ _ (nI k) G = sh_L_twins_158 _ m _ _ _ (nI (k + 1)) s'
    obtain ⟨r, r1, r2⟩ := low_f (l1 >>> (((3 : Int32) * nI k) &&& 31)) (n := 90) (by decide) (by decide)
    have r2' : sh_L_low (l1 >>> (((3 : Int32) * nI k) &&& 31)) 90 = some (nI r) := r2
    have i0 := inv_0 hv
    obtain ⟨G31, e31, S31⟩ := qc_pass (m := 1 + r) S l03 (by omega) (by omega) i0.1 (by omega)
    have hadd : (1 : Int32) + nI r = nI (1 + r) := nI_add 1 r
    have hv' : inv (n + 90 * (k + 1)) (sTickN (1 + r) b) := (inv_ticks (1 + r) _ hv (by omega)).mono (by omega)
    have hT' := tw_ticks (1 + r) hT
    have hw := hv'.1
    obtain ⟨t1, t2, t3, t4, t5, t6, t7⟩ := hT'
    have hti := hw.1 i t1 t4
    have htj := hw.1 j t2 t5
    rw [sh_L_twins_158.eq_2, if_neg (by rw [show (5 : Int32) = nI 5 from rfl, nI_leI (by omega) (by omega)]; omega), r2', obp_s, hadd, e31, obi_s, if_neg (blinks_d hv (by omega)), ql0 S31 t1 hti, obp_s, ql0 S31 t2 htj, obp_s, if_pos (t6 1 fld1), ql4 S31 t1 hti, obp_s, ql4 S31 t2 htj, obp_s, if_pos (t6 5 fld5), ql5 S31 t1 hti, obp_s, ql5 S31 t2 htj, obp_s, if_pos (t6 6 fld6), ql9 S31 t1 hti, obp_s, ql9 S31 t2 htj, obp_s, if_pos (t6 7 fld7), qc_apart S31 t1 t2 hti htj, obp_s, if_pos ((sDist_i hw t1 t2 hti htj).2.2.mpr (t6 1 fld1))]
    unfold sh_L_twins_j274
    rw [if_neg n10, nI_1 k]
    exact ⟨G31, ⟨_, S31.weak, hv', t1, t2, t3, t4, t5, t6, t7⟩, rfl⟩) 5 0 FU G rfl (by decide) ⟨b, S, hv, hT⟩
  exact ⟨s, b', h3, h1, h2⟩
set_option maxHeartbeats 1000000 in
theorem L_twins {G : gG} {a : AM} {n : Nat} (S : SC G a []) (hv : inv n a) (hn : n ≤ 50000) (w : Int32) : ∃ G' a', sh_L_twins w G = some (1, G') ∧ SC G' a' [] ∧ inv (n + 450) a' := by
  have hc := cnt_le (aT a) 16
  obtain ⟨per, p1, p2, p3⟩ := per_n hv.1
  have e14 : (14 : Int32) = nI 14 := rfl
  unfold sh_L_twins
  rw [qk1 S, obp_s]
  by_cases q : cnt (aT a) 16 ≤ 14
  · obtain ⟨p, hp1, hp2⟩ := low_f w (n := per) (by omega) (by omega)
    obtain ⟨r, hr1, hr2⟩ := low_f (w >>> ((7 : Int32) &&& 31)) (n := 101) (by decide) (by decide)
    have hr2' : sh_L_low (w >>> ((7 : Int32) &&& 31)) 101 = some (nI r) := hr2
    have hadd : (50 : Int32) + nI r = nI (50 + r) := nI_add 50 r
    have eper : (aG a 5).toInt = per := by rw [p1]; exact nI_toInt (by omega)
    obtain ⟨i, G11, f1, e11, S11, v11⟩ := M_come (p := p) (r := 50 + r) S l03 hv (by omega) (by omega) (by omega)
    have hc1 := lay_cnt (ph := nI p * 100) (rt := nI (50 + r)) f1.1 f1.2.1
    obtain ⟨j, G14, f2, e14', S14, v14⟩ := M_come (p := p) (r := 50 + r) S11 l03 v11 (by show (p : Int) < (aG a 5).toInt; omega) (by omega) (by omega)
    have hi := f1.1
    have hj := f2.1
    have hij : i ≠ j := fun h => by
      have h2 := f2.2.1
      rw [← h] at h2
      have h2' : (aT a i || decide (i = i)) = false := h2
      simp at h2'
    have hTW : TWI n (sLay (sLay a i (nI p * 100) (nI (50 + r))) j (nI p * 100) (nI (50 + r))) i j 0 := by
      have nT : ∀ b : AM, ∀ l : Nat, ∀ r' c : Nat, aL (sLay b l (nI p * 100) (nI (50 + r))) r' c = if r' = l then false else aL b r' c := fun _ _ _ _ => rfl
      have lk0 : ∀ c, c < 16 → aL (sLay (sLay a i (nI p * 100) (nI (50 + r))) j (nI p * 100) (nI (50 + r))) i c = false ∧ aL (sLay (sLay a i (nI p * 100) (nI (50 + r))) j (nI p * 100) (nI (50 + r))) j c = false := fun c hc => by
        rw [nT, nT, nT, if_neg hij, if_pos rfl, if_pos rfl]
        exact ⟨rfl, rfl⟩
      refine ⟨v14, ⟨hi, hj, hij, ?_, ?_, fun f hf => ?_, fun c hc c1 c2 => ?_⟩, fun c hc _ => lk0 c hc⟩
      · show ((aO a i || decide (i = i)) || decide (i = j)) = true
        simp
      · show ((aO a j || decide (j = i)) || decide (j = j)) = true
        simp
      · show (if i = j then _ else (if i = i then (if f = 1 then nI p * 100 else if f = 2 then nI (50 + r) else 0) else aN a f i)) = (if j = j then (if f = 1 then nI p * 100 else if f = 2 then nI (50 + r) else 0) else _)
        rw [if_neg hij, if_pos rfl, if_pos rfl]
      · have hs := v14.1.2.1
        rw [hs c i hc hi, hs c j hc hj, (lk0 c hc).1, (lk0 c hc).2]
    rw [if_pos (by rw [e14, nI_leI (by omega) (by omega)]; exact q), qk9 S, obp_s, p1, hp2, obp_s, hr2', obp_s, hadd, e11, obi_s, e14', obi_s]
    obtain ⟨G5, b5, e5, S5, T5⟩ := L_tw1 S14 hTW w (fun l1 l4 l5 G => (obp (sh_L_low (l1 >>> ((3 : Int32) &&& 31)) (2 : Int32)) fun r26 => (if r26 = (0 : Int32) then (obi (sh_X3_link l4 l5 (1 : Int32) G) fun r51 G52 => (if (1 : Int32) ≤ r51 then (sh_L_twins_158 (fun G => some ((1 : Int32), G)) FU l1 l4 l5 (0 : Int32) G52) else some ((0 : Int32), G52))) else (sh_L_twins_158 (fun G => some ((1 : Int32), G)) FU l1 l4 l5 (0 : Int32) G))))
    rw [e5]
    obtain ⟨u, u1, u2⟩ := low_f (w >>> ((3 : Int32) &&& 31)) (n := 2) (by decide) (by decide)
    have u2' : sh_L_low (w >>> ((3 : Int32) &&& 31)) 2 = some (nI u) := u2
    rw [u2', obp_s]
    by_cases q3 : nI u = 0
    · have hw5 := T5.1.1
      obtain ⟨x, G52, e52, x1, x2, S52, v52⟩ := M_link S5 T5.1 hi hj (hw5.1 i hi T5.2.1.2.2.2.1) (hw5.1 j hj T5.2.1.2.2.2.2.1) hij (T5.2.2 j hj (Or.inr (Or.inr rfl))).1
      have T52 : tw (sLink b5 i j true) i j := by
        obtain ⟨t1, t2, t3, t4, t5, t6, t7⟩ := T5.2.1
        refine ⟨t1, t2, t3, t4, t5, t6, fun c hc c1 c2 => ?_⟩
        rw [sl_at, sl_at, if_neg (by omega), if_neg (by omega)]
        exact t7 c hc c1 c2
      rw [if_pos q3, e52, obi_s, if_pos (by rw [show (1 : Int32) = nI 1 from rfl, nI_leI (by omega) (by omega)]; omega)]
      exact L_tw2 S52 v52 hn T52 w
    · rw [if_neg q3]
      exact L_tw2 S5 T5.1 hn T5.2.1 w
  · rw [if_neg (by rw [e14, nI_leI (by omega) (by omega)]; exact q)]
    exact ⟨G, a, rfl, S, hv.mono (by omega)⟩
