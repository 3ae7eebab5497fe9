-- the whole of the law's look
theorem gd0 {a : AM} (hw : wf a) (h : isMx a (gdOf a)) {i : Nat} (hi : i < 16) (ho : aO a i = true) : gdOf a = 0 ↔ pTog a := by
  constructor
  · intro h0
    refine ⟨⟨i, hi, ho⟩, fun r s hr hs o1 o2 => ?_⟩
    have h1 := h.2.1 r s hr hs o1 o2
    obtain ⟨d1, d2, d3⟩ := sDist_i hw hr hs (hw.1 r hr o1) (hw.1 s hs o2)
    rw [h0, I_0] at h1
    refine d3.mp ?_
    rw [I_eq, I_0]; omega
  · rintro ⟨_, h1⟩
    rcases h.2.2 with q | ⟨r, s, hr, hs, o1, o2, q⟩
    · exact q
    · rw [q]
      exact (sDist_i hw hr hs (hw.1 r hr o1) (hw.1 s hs o2)).2.2.mpr (h1 r s hr hs o1 o2)
theorem tgt_none {a : AM} (q : ∀ i, i < 16 → aO a i = false) : sTgt a = -5 := by
  unfold sTgt; rw [if_pos (cnt_0.mpr q)]
theorem tgt_on {a : AM} {i : Nat} (hi : i < 16) (ho : aO a i = true) : sTgt a = sTg 2000 0 a := by
  unfold sTgt
  rw [if_neg (by have := cnt_pos hi ho; omega)]
theorem tgt_0 {a : AM} {i : Nat} (hi : i < 16) (ho : aO a i = true) : sTgt a = 0 ↔ pTog a := by
  rw [tgt_on hi ho]
  rcases tg_f 2000 0 a with ⟨h1, h2⟩ | ⟨k, h1, h2, h3, h4⟩
  · rw [h1]
    exact ⟨fun h => absurd h (by decide), fun h => absurd h (h2 0 (by omega))⟩
  · rw [h2, Nat.zero_add]
    constructor
    · intro h
      have : k = 0 := nI_inj (by omega) (by omega) (show nI k = nI 0 from h)
      subst this
      exact h3
    · intro h
      cases k with
      | zero => rfl
      | succ k => exact absurd h (h4 0 (by omega))
theorem two_half {k : Nat} (h : k % 2 = 0) (hk : k ≤ 256) : (2 : Int32) * nI (k / 2) = nI k := by
  have : ∀ k : Nat, k < 257 → k % 2 = 0 → (2 : Int32) * nI (k / 2) = nI k := by decide +kernel
  exact this k (by omega) h
theorem cnt_cz {S T : Nat → Bool} {j : Nat} : cnt S (j + 1) = cnt S j + (S j).toNat := rfl
set_option maxHeartbeats 2000000 in
theorem L_holds_end {G : gG} {a : AM} {us : List AM} {nn : Nat} (S : SC G a us) (hv : inv nn a) (hn : nn ≤ 100000) {m : Int32} (hm : mxQ a (fun r _ => r < 16) m) : ∃ G', (obp (sh_X3_count (1 : Int32) G) fun r28 => (if r28 = (nI (cnt (aT a) 16)) then (obp (sh_X3_count (2 : Int32) G) fun r44 => (if r44 = (nI (cnt (aO a) 16)) then (obp (sh_X3_count (3 : Int32) G) fun r46 => (if ((2 : Int32) * r46) = (nI (lkN a)) then (obp (sh_X3_count (4 : Int32) G) fun r48 => (if (nI (cnt (aO a) 16)) < r48 then (sh_L_holds_j388 (nI (cnt (aO a) 16)) m G) else (obp (sh_X3_count (4 : Int32) G) fun r50 => (if r50 ≤ (0 : Int32) then (sh_L_holds_j276 (nI (cnt (aO a) 16)) (bN a 5 16) (bN a 7 16) m (0 : Int32) G) else (sh_L_holds_j276 (nI (cnt (aO a) 16)) (bN a 5 16) (bN a 7 16) m (1 : Int32) G))))) else (sh_L_holds_j388 (nI (cnt (aO a) 16)) m G))) else (sh_L_holds_j388 (nI (cnt (aO a) 16)) m G))) else (sh_L_holds_j388 (nI (cnt (aO a) 16)) m G))) = some (1, G') ∧ SC G' a us := by
  have hw := hv.1
  have hev := lk_even hv
  obtain ⟨_, v2, v3, g1, g2, g3, g4, g5, g6, g7, g8, g9, g10, g11, g12⟩ := hv
  have hcp := pcs_le a 16
  have hco := cnt_le (aO a) 16
  rw [qk1 S, obp_s, if_pos rfl, qk2 S, obp_s, if_pos rfl, qk3 S, obp_s, if_pos (two_half hev (lk_le a)), qk4 S, obp_s, if_neg (by rw [nI_ltI (by omega) (by omega)]; omega), obp_s]
  have b5 := bN_i v3 (f := 5) (Or.inl rfl) (by omega) 16 (by omega)
  have b7 := bN_i v3 (f := 7) (Or.inr rfl) (by omega) 16 (by omega)
  have s5 : (bN a 5 16).toInt = sB a 5 := b5
  have s7 : (bN a 7 16).toInt = sB a 7 := b7
  have e16 : (16 : Int32).toInt = 16 := by decide
  have e1 : (1 : Int32).toInt = 1 := by decide
  -- the parts behind the pieces
  have J486 : ∀ x : Int32, ∀ G', SC G' a us → (m = 0 → pTog a) → sh_L_holds_j486 m x x G' = some (1, G') := by
    intro x G' S' h0
    unfold sh_L_holds_j486
    rw [if_pos rfl]
    by_cases q : m = 0
    · rw [if_pos q, (qc_reason S').2.1 (h0 q), obp_s, if_pos rfl]
    · rw [if_neg q]
  have J454 : ∀ G', SC G' a us → ∃ G2, sh_L_holds_j454 m G' = some (1, G2) ∧ SC G2 a us := by
    intro G' S'
    refine ⟨G', ?_, S'⟩
    unfold sh_L_holds_j454
    have J467 : ∀ x : Int32, (m = 0 → pTog a) → (x = if 1 < (sPcs a 16).1 ∧ 0 < m.toInt then 1 else 0) → sh_L_holds_j467 m x G' = some (1, G') := by
      intro x h0 hx
      unfold sh_L_holds_j467
      rw [qk4 S', obp_s]
      have hle : nI (sPcs a 16).1 ≤ 1 ↔ (sPcs a 16).1 ≤ 1 := by
        rw [show (1 : Int32) = nI 1 from rfl]; exact nI_leI (by omega) (by omega)
      by_cases q : (sPcs a 16).1 ≤ 1
      · rw [if_pos (hle.mpr q)]
        unfold sh_L_holds_j485
        rw [if_neg (by omega)] at hx
        rw [hx]
        exact J486 0 G' S' h0
      · rw [if_neg (fun h => q (hle.mp h))]
        by_cases q2 : m ≤ 0
        · rw [if_pos q2]
          rw [I_le, I_0] at q2
          unfold sh_L_holds_j485
          rw [if_neg (by omega)] at hx
          rw [hx]
          exact J486 0 G' S' h0
        · rw [if_neg q2]
          rw [I_le, I_0] at q2
          rw [if_pos (by omega)] at hx
          rw [hx]
          exact J486 1 G' S' h0
    rcases hm with ⟨h1, h2⟩ | ⟨h1, h2, i, c, hi, hc, o1, o2, h3⟩
    · have q : ∀ i, i < 16 → aO a i = false := fun i hi => by
        cases ho : aO a i
        · rfl
        · exact absurd (h2 i i hi hi hi ho ho) id
      have hm5 : m.toInt = -5 := by rw [h1]; decide
      rw [(qc_reason S').1 q, obp_s, if_neg (by decide)]
      exact J467 0 (fun h => by rw [h, I_0] at hm5; omega) (by rw [if_neg (by omega)])
    · have hmx : isMx a m := ⟨h1, fun r s hr hs p1 p2 => h2 r s hr hs hr p1 p2, Or.inr ⟨i, c, hi, hc, o1, o2, h3⟩⟩
      have hg := gd_u hmx
      have hmx' : isMx a (gdOf a) := by rw [← hg]; exact hmx
      have h0 := gd0 hw hmx' hi o1
      by_cases ht : pTog a
      · rw [(qc_reason S').2.1 ht, obp_s, if_neg (by decide)]
        have hm0 : m = 0 := by rw [hg]; exact h0.mpr ht
        refine J467 0 (fun _ => ht) (by rw [if_neg (by rw [hm0, I_0]; omega)])
      · obtain ⟨r, r1, r2⟩ := (qc_reason S').2.2 ⟨i, hi, o1⟩ ht
        have hm0 : m ≠ 0 := fun h => ht (h0.mp (by rw [← hg]; exact h))
        have hmp : 0 < m.toInt := by
          have : m.toInt ≠ 0 := fun h => hm0 (by rw [I_eq, I_0]; exact h)
          omega
        rw [r1, obp_s]
        by_cases q : r = 2
        · rw [if_pos q]
          have := r2.mp q
          exact J467 1 (fun h => absurd h hm0) (by rw [if_pos (by omega)])
        · rw [if_neg q]
          refine J467 0 (fun h => absurd h hm0) ?_
          rw [if_neg (fun h => q (r2.mpr (Or.inl ⟨h.1, by omega⟩)))]
  have J389 : ∃ G', sh_L_holds_j389 (nI (cnt (aO a) 16)) m 1 G = some (1, G') ∧ SC G' a us := by
    unfold sh_L_holds_j389
    obtain ⟨G1, t1, S1⟩ := qc_together S
    rw [t1, obi_s, if_neg n10]
    rcases on_c a with q | ⟨i, hi, ho⟩
    · have hm5 : m = -5 := by
        rcases hm with ⟨h1, h2⟩ | ⟨h1, h2, i, c, hi, hc, o1, o2, h3⟩
        · exact h1
        · rw [q i hi] at o1; cases o1
      rw [tgt_none q, if_neg (by decide)]
      unfold sh_L_holds_j412
      rw [if_neg (by rw [hm5]; decide)]
      unfold sh_L_holds_j422
      rw [if_pos rfl, cnt_0.mpr q, if_neg (show ¬ (0 : Int32) < nI 0 by decide), if_pos rfl, (qc_next_none S1 q).1, obi_s, if_pos rfl, (qc_reason S1).1 q, obp_s, if_pos rfl]
      exact J454 G1 S1
    · have hmx : isMx a m := by
        rcases hm with ⟨h1, h2⟩ | ⟨h1, h2, i, c, hi, hc, o1, o2, h3⟩
        · exact absurd (h2 i i hi hi hi ho ho) id
        · exact ⟨h1, fun r s hr hs p1 p2 => h2 r s hr hs hr p1 p2, Or.inr ⟨i, c, hi, hc, o1, o2, h3⟩⟩
      have hg := gd_u hmx
      have hmx' : isMx a (gdOf a) := by rw [← hg]; exact hmx
      have h0 := gd0 hw hmx' hi ho
      rw [← hg] at h0
      have hz := tgt_0 hi ho
      have hpos : (0 : Int32) < nI (cnt (aO a) 16) := by
        have := cnt_pos hi ho
        rw [show (0 : Int32) = nI 0 from rfl, nI_ltI (by decide) (by omega)]; omega
      have fin : ∀ x : Int32, ∃ G', sh_L_holds_j422 (nI (cnt (aO a) 16)) m (sTgt a) x x G1 = some (1, G') ∧ SC G' a us := by
        intro x
        unfold sh_L_holds_j422
        rw [if_pos rfl, if_pos hpos]
        exact J454 G1 S1
      by_cases ht : pTog a
      · rw [if_pos (hz.mpr ht)]
        unfold sh_L_holds_j412
        rw [if_pos (h0.mpr ht)]
        exact fin 1
      · rw [if_neg (fun h => ht (hz.mp h))]
        unfold sh_L_holds_j412
        rw [if_neg (fun h => ht (h0.mp h))]
        exact fin 0
  have J372 : ∀ x : Int32, ∃ G', sh_L_holds_j372 (nI (cnt (aO a) 16)) m x x G = some (1, G') ∧ SC G' a us := by
    intro x
    unfold sh_L_holds_j372
    rw [if_pos rfl]
    have hsp : sh_X3_spread G = some m := by
      rcases hm with ⟨h1, h2⟩ | ⟨h1, h2, i, c, hi, hc, o1, o2, h3⟩
      · rw [qc_spread_none S (fun i hi => by
          cases ho : aO a i
          · rfl
          · exact absurd (h2 i i hi hi hi ho ho) id), h1]
      · have hmx : isMx a m := ⟨h1, fun r s hr hs p1 p2 => h2 r s hr hs hr p1 p2, Or.inr ⟨i, c, hi, hc, o1, o2, h3⟩⟩
        rw [(qc_spread S hi o1).1, gd_u hmx]
    rw [hsp, obp_s, if_pos rfl]
    exact J389
  have J358 : ∀ x : Int32, (x = if (aG a 4).toInt = 0 then 1 else 0) → ∃ G', sh_L_holds_j358 (nI (cnt (aO a) 16)) m x G = some (1, G') ∧ SC G' a us := by
    intro x hx
    unfold sh_L_holds_j358
    rw [qk7 S, obp_s]
    by_cases q : aG a 3 = 0
    · rw [if_pos q, hx, if_pos (g12.mpr (by rw [q]; exact I_0))]; exact J372 1
    · rw [if_neg q, hx, if_neg (fun h => q (by rw [I_eq, I_0]; exact g12.mp h))]; exact J372 0
  have J285 : ∀ x : Int32, ∃ G', sh_L_holds_j285 (nI (cnt (aO a) 16)) (bN a 5 16) (bN a 7 16) m x x G = some (1, G') ∧ SC G' a us := by
    intro x
    unfold sh_L_holds_j285
    rw [if_pos rfl, qk5 S, obp_s, if_neg (by rw [I_lt]; omega), qk6 S, obp_s, if_neg (by rw [I_lt]; omega), qk7 S, obp_s, qk0 S, obp_s, if_neg (by rw [I_lt]; omega), qk8 S, obp_s, if_neg (by rw [I_lt]; omega), obp_s, if_neg (fun h => g11 (by rw [h]; exact e1)), obp_s]
    by_cases q : aG a 4 = 0
    · rw [if_pos q]; exact J358 1 (by rw [if_pos (by rw [q]; exact I_0)])
    · rw [if_neg q]; exact J358 0 (by rw [if_neg (fun h => q (by rw [I_eq, I_0]; exact h))])
  have J276 : ∀ x : Int32, (x = if cnt (aO a) 16 = 0 then 0 else 1) → ∃ G', sh_L_holds_j276 (nI (cnt (aO a) 16)) (bN a 5 16) (bN a 7 16) m x G = some (1, G') ∧ SC G' a us := by
    intro x hx
    unfold sh_L_holds_j276
    by_cases q : cnt (aO a) 16 = 0
    · rw [hx, if_pos q, if_pos (by rw [q]; decide)]; exact J285 0
    · rw [hx, if_neg q, if_neg (nI_nle (by omega) (by omega))]; exact J285 1
  rcases on_c a with q | ⟨i, hi, ho⟩
  · have hc0 := cnt_0.mpr q
    rw [if_pos (show nI (sPcs a 16).1 ≤ 0 by rw [show (sPcs a 16).1 = 0 by omega]; decide)]
    exact J276 0 (by rw [if_pos hc0])
  · have := pcs_pos hi ho
    have := cnt_pos hi ho
    rw [if_neg (nI_nle (by omega) (by omega))]
    exact J276 1 (by rw [if_neg (by omega)])
set_option maxHeartbeats 1000000 in
theorem L_holds {G : gG} {a : AM} {us : List AM} {nn : Nat} (S : SC G a us) (hv : inv nn a) (hn : nn ≤ 100000) : ∃ G', sh_L_holds G = some (1, G') ∧ SC G' a us := by
  have hp : hasPc a := fun l hl => pc_is S hl
  have hw := hv.1
  unfold sh_L_holds
  obtain ⟨m, h1, h2⟩ := forl 16 (fun n j (m : Int32) => sh_L_holds_19 (fun l1 l2 l3 l4 l5 l6 G => (obp (sh_X3_count (1 : Int32) G) fun r28 => (if r28 = l1 then (obp (sh_X3_count (2 : Int32) G) fun r44 => (if r44 = l2 then (obp (sh_X3_count (3 : Int32) G) fun r46 => (if ((2 : Int32) * r46) = l3 then (obp (sh_X3_count (4 : Int32) G) fun r48 => (if l2 < r48 then (sh_L_holds_j388 l2 l6 G) else (obp (sh_X3_count (4 : Int32) G) fun r50 => (if r50 ≤ (0 : Int32) then (sh_L_holds_j276 l2 l4 l5 l6 (0 : Int32) G) else (sh_L_holds_j276 l2 l4 l5 l6 (1 : Int32) G))))) else (sh_L_holds_j388 l2 l6 G))) else (sh_L_holds_j388 l2 l6 G))) else (sh_L_holds_j388 l2 l6 G)))) n (nI (cnt (aT a) j)) (nI (cnt (aO a) j)) (nI (dsum (fun r => cnt (aL a r) 16) j)) (bN a 5 j) (bN a 7 j) m (nI j) G) (fun j m => mxQ a (fun r _ => r < j) m) (fun m => (obp (sh_X3_count (1 : Int32) G) fun r28 => (if r28 = (nI (cnt (aT a) 16)) then (obp (sh_X3_count (2 : Int32) G) fun r44 => (if r44 = (nI (cnt (aO a) 16)) then (obp (sh_X3_count (3 : Int32) G) fun r46 => (if ((2 : Int32) * r46) = (nI (lkN a)) then (obp (sh_X3_count (4 : Int32) G) fun r48 => (if (nI (cnt (aO a) 16)) < r48 then (sh_L_holds_j388 (nI (cnt (aO a) 16)) m G) else (obp (sh_X3_count (4 : Int32) G) fun r50 => (if r50 ≤ (0 : Int32) then (sh_L_holds_j276 (nI (cnt (aO a) 16)) (bN a 5 16) (bN a 7 16) m (0 : Int32) G) else (sh_L_holds_j276 (nI (cnt (aO a) 16)) (bN a 5 16) (bN a 7 16) m (1 : Int32) G))))) else (sh_L_holds_j388 (nI (cnt (aO a) 16)) m G))) else (sh_L_holds_j388 (nI (cnt (aO a) 16)) m G))) else (sh_L_holds_j388 (nI (cnt (aO a) 16)) m G)))) (by
    intro n m _
    show sh_L_holds_19 _ (n + 1) _ _ _ _ _ _ (nI 16) _ = _
    rw [sh_L_holds_19.eq_2, if_pos (by decide)]
    rfl) (by
    intro n j m hj hQ
    show ∃ m', _ ∧ sh_L_holds_19 _ (n + 1) _ _ _ _ _ _ (nI j) _ = sh_L_holds_19 _ n _ _ _ _ _ _ (nI (j + 1)) _
    rw [sh_L_holds_19.eq_2, if_neg (nj16 hj), L_isThere S hj, obp_s, ifb0, nI_1 j]
    cases ht : aT a j
    · have ho : aO a j = false := by
        cases ho : aO a j
        · rfl
        · have := hw.1 j hj ho
          rw [ht] at this; cases this
      have hl : cnt (aL a j) 16 = 0 := cnt_0.mpr (fun c hc => by
        cases hl : aL a j c
        · rfl
        · have := hw.2.2.1 j c hj hc hl
          rw [ht] at this; cases this)
      have c1 : cnt (aT a) (j + 1) = cnt (aT a) j := by show cnt (aT a) j + (aT a j).toNat = _; rw [ht]; rfl
      have c2 : cnt (aO a) (j + 1) = cnt (aO a) j := by show cnt (aO a) j + (aO a j).toNat = _; rw [ho]; rfl
      have c3 : dsum (fun r => cnt (aL a r) 16) (j + 1) = dsum (fun r => cnt (aL a r) 16) j := by show dsum _ j + cnt (aL a j) 16 = _; rw [hl]; rfl
      have c5 : bN a 5 (j + 1) = bN a 5 j := by show (if aT a j then _ else _) = _; rw [ht]; rfl
      have c7 : bN a 7 (j + 1) = bN a 7 j := by show (if aT a j then _ else _) = _; rw [ht]; rfl
      rw [c1, c2, c3, c5, c7]
      refine ⟨m, hQ.mono (fun r s hr hs o1 o2 q => ?_), rfl⟩
      by_cases e : r = j
      · rw [e, ho] at o1; cases o1
      · omega
    · have c1 : cnt (aT a) (j + 1) = cnt (aT a) j + 1 := by show cnt (aT a) j + (aT a j).toNat = _; rw [ht]; rfl
      have c2 : nI (cnt (aO a) (j + 1)) = nI (cnt (aO a) j) + b2i (aO a j) := by
        show nI (cnt (aO a) j + (aO a j).toNat) = _
        rw [← nI_add]
        cases aO a j <;> rfl
      have c5 : bN a 5 (j + 1) = bN a 5 j + aN a 5 j := by show (if aT a j then _ else _) = _; rw [ht]; rfl
      have c7 : bN a 7 (j + 1) = bN a 7 j + aN a 7 j := by show (if aT a j then _ else _) = _; rw [ht]; rfl
      rw [if_pos rfl, L_isOn S hj, obp_s, c1, c5, c7, nI_1]
      have J53 : ∀ x : Int32, nI (cnt (aO a) j) + x = nI (cnt (aO a) (j + 1)) → ∀ (kt : Int32 → Int32 → Int32 → Int32 → Int32 → Int32 → gG → Option (Int32 × gG)), ∃ m', mxQ a (fun r _ => r < j + 1) m' ∧ sh_L_holds_j53 kt (sh_L_holds_19 kt n) (nI (cnt (aT a) j + 1)) (nI (dsum (fun r => cnt (aL a r) 16) j)) (bN a 5 j) (bN a 7 j) m (nI j) (nI (cnt (aO a) j)) x G = sh_L_holds_19 kt n (nI (cnt (aT a) j + 1)) (nI (cnt (aO a) (j + 1))) (nI (dsum (fun r => cnt (aL a r) 16) (j + 1))) (bN a 5 j + aN a 5 j) (bN a 7 j + aN a 7 j) m' (nI (j + 1)) G := by
        intro x hx kt
        unfold sh_L_holds_j53
        rw [ql4 S hj ht, obp_s, ql9 S hj ht, obp_s, hx]
        obtain ⟨m', r1, r2⟩ := L_row S hv hj ht (fun l1 l2 l3 l4 l5 l6 l7 G => (obp (sh_L_isLamp l7 G) fun r26 => (if r26 = (0 : Int32) then some ((0 : Int32), G) else sh_L_holds_19 kt n l1 l2 l3 l4 l5 l6 (l7 + 1) G))) (nI (cnt (aT a) j + 1)) (nI (cnt (aO a) (j + 1))) (bN a 5 j + aN a 5 j) (bN a 7 j + aN a 7 j) (dsum (fun r => cnt (aL a r) 16) j) m hQ
        refine ⟨m', r1, ?_⟩
        rw [r2, L_isLamp S hv hp hj ht, obp_s, if_neg n10, nI_1 j]
        rfl
      by_cases q : b2i (aO a j) = 0
      · rw [if_pos q]; exact J53 0 (by rw [c2, q]) _
      · rw [if_neg q]
        refine J53 1 ?_ _
        rw [c2]
        cases ho : aO a j
        · exact absurd (by rw [ho]; rfl) q
        · rfl) 16 0 FU (-5) rfl (by decide) (Or.inl ⟨rfl, fun i c _ _ q _ _ => by omega⟩)
  have h2' := h2
  obtain ⟨G', f1, f2⟩ := L_holds_end S hv hn h1
  refine ⟨G', ?_, f2⟩
  rw [← f1]
  exact h2
