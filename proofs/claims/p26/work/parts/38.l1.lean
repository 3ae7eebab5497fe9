-- ticks in two calls, together when told, the next that blink
theorem blinks_up : ∀ (m n : Nat) {a : AM}, inv n a → n + m ≤ 100000 → (aG a 1).toInt ≤ (aG (sTickN m a) 1).toInt
  | 0, n, _, h, _ => Int.le_refl _
  | m + 1, n, a, h, hn => by
    have h1 := inv_ticks m n h (by omega)
    have ih := blinks_up m n h (by omega)
    obtain ⟨P, f1, f2, f3, f4, t0, t1, t2, t3, t4, t5, t6, t7, t8⟩ := tick_f (sTickN m a)
    obtain ⟨_, _, v3, g1, g2, g3, g4, _⟩ := h1
    have := sB_nn v3 (f := 5) (Or.inl rfl)
    have := cnt_le (sTick (sTickN m a)).2 16
    rw [tickN_s, t1, I_addn (by omega) (by omega)]
    omega
theorem inv_b1 {n : Nat} {a : AM} (h : inv n a) (hn : n ≤ 100000) : 0 ≤ (aG a 1).toInt ∧ (aG a 1).toInt ≤ 1600000 := by
  obtain ⟨_, _, v3, g1, g2, g3, g4, _⟩ := h
  have := sB_nn v3 (f := 5) (Or.inl rfl)
  omega
theorem inv_0 {n : Nat} {a : AM} (h : inv n a) : 0 ≤ (aG a 0).toInt ∧ (aG a 0).toInt ≤ n := ⟨h.2.2.2.1, h.2.2.2.2.1⟩
theorem blinks_d {m n : Nat} {a : AM} (h : inv n a) (hn : n + m ≤ 100000) : ¬ aG (sTickN m a) 1 - aG a 1 < 0 := by
  have h1 := blinks_up m n h hn
  have h2 := inv_b1 h (by omega)
  have h3 := inv_b1 (inv_ticks m n h hn) hn
  rw [I_lt, I_0, I_sub (by omega) (by omega)]
  omega
theorem obl_s {α : Type} (r : Int64) (f : Int64 → Option α) : obl (some r) f = f r := rfl
theorem l03 : ([] : List AM).length ≤ 3 := Nat.le_of_ble_eq_true rfl
theorem l13 {x : AM} : ([] ++ [x] : List AM).length ≤ 3 := Nat.le_of_ble_eq_true rfl
theorem nI_nn {k : Nat} (h : k < 4) : ¬ nI k < 0 := nI_pos (by omega)
theorem L_passSo {G : gG} {a : AM} {n p q : Nat} (S : SC G a []) (hv : inv n a) (hn : n ≤ 50000) (hp : 1 ≤ p ∧ p ≤ 100) (hq : 1 ≤ q ∧ q ≤ 100) : ∃ G', sh_L_passSo (nI p) (nI q) G = some (1, G') ∧ SC G' (sTickN (p + q) a) [a] := by
  have i0 := inv_0 hv
  have hv1 := inv_ticks p n hv (by omega)
  have i1 := inv_0 hv1
  obtain ⟨G3, e3, S3⟩ := qc_pass (m := p) S l03 hp.1 (by omega) i0.1 (by omega)
  obtain ⟨G6, e6, S6⟩ := qc_pass (m := q) S3 l13 hq.1 (by omega) i1.1 (by omega)
  obtain ⟨k1, G16, k1', e16, S16⟩ := qc_undo S6
  obtain ⟨k2, G19, k2', e19, S19⟩ := qc_undo S16
  obtain ⟨G11, e11, S11⟩ := qc_pass (m := p + q) S19 l03 (by omega) (by omega) i0.1 (by omega)
  have b0 := inv_b1 hv (by omega)
  have b1 := inv_b1 hv1 (by omega)
  have b2 := inv_b1 (inv_ticks q (n + p) hv1 (by omega)) (by omega)
  have hsum : aG (sTickN (p + q) a) 1 - aG a 1 = (aG (sTickN p a) 1 - aG a 1) + (aG (sTickN q (sTickN p a)) 1 - aG (sTickN p a) 1) := by
    rw [tickN_add]
    have s1 : (aG (sTickN p a) 1 - aG a 1).toInt = (aG (sTickN p a) 1).toInt - (aG a 1).toInt := I_sub (by omega) (by omega)
    have s2 : (aG (sTickN q (sTickN p a)) 1 - aG (sTickN p a) 1).toInt = (aG (sTickN q (sTickN p a)) 1).toInt - (aG (sTickN p a) 1).toInt := I_sub (by omega) (by omega)
    rw [I_eq, I_sub (by omega) (by omega), I_add (by omega) (by omega), s1, s2]
    omega
  have S11' : SC G11 (sTickN q (sTickN p a)) [a] := by rw [← tickN_add]; exact S11
  unfold sh_L_passSo
  rw [e3, obi_s, e6, obi_s, L_tale S6, obl_s, if_neg (blinks_d hv (by omega)), if_neg (blinks_d hv1 (by omega)), e16, obi_s, if_neg (nI_nn k1'), e19, obi_s, if_neg (nI_nn k2')]
  unfold sh_L_passSo_j47
  rw [if_neg n10, nI_add, e11, obi_s, if_pos hsum, L_tale S11', obl_s, lgc, if_pos rfl]
  exact ⟨G11, rfl, S11⟩
theorem tog_sp {G : gG} {a : AM} {us : List AM} (S : SC G a us) {i : Nat} (hi : i < 16) (ho : aO a i = true) : ∃ r, sh_X3_spread G = some r ∧ 0 ≤ r.toInt ∧ (r = 0 ↔ pTog a) := by
  obtain ⟨h1, h2⟩ := qc_spread S hi ho
  exact ⟨_, h1, h2.1, gd0 S.2.1 h2 hi ho⟩
theorem nI_sub1 {k : Nat} (h : 1 ≤ k) : nI k - 1 = nI (k - 1) := by
  obtain ⟨j, rfl⟩ : ∃ j, k = j + 1 := ⟨k - 1, by omega⟩
  exact nI_pred j
set_option maxHeartbeats 1000000 in
theorem L_togetherSo {G : gG} {a : AM} {n : Nat} (S : SC G a []) (hv : inv n a) (hn : n ≤ 50000) : ∃ G', sh_L_togetherSo G = some (1, G') ∧ SC G' a [] := by
  have i0 := inv_0 hv
  unfold sh_L_togetherSo
  obtain ⟨G3, e3, S3⟩ := qc_together S
  rw [e3, obi_s]
  have J5 : sTgt a = -5 → ∃ G', (if sTgt a < 1 then sh_L_togetherSo_j17 (sTgt a) G3 else (if sTgt a ≤ 999 then (obi (sh_X3_pass (sTgt a) G3) fun r16 G17 => (if r16 < (0 : Int32) then (sh_L_togetherSo_j102 (sTgt a) G17) else (obp (sh_X3_spread G17) fun r27 => (if r27 = (0 : Int32) then (obi (sh_X3_undo G17) fun r29 G30 => (if r29 < (0 : Int32) then (sh_L_togetherSo_j102 (sTgt a) G30) else (sh_L_togetherSo_j103 (sTgt a) (1 : Int32) G30))) else (sh_L_togetherSo_j102 (sTgt a) G17))))) else (sh_L_togetherSo_j17 (sTgt a) G3))) = some (1, G') ∧ SC G' a [] := by
    intro h
    rw [h, if_pos (by decide)]
    unfold sh_L_togetherSo_j17
    rw [if_neg (by decide), if_pos rfl]
    exact ⟨G3, rfl, S3⟩
  rcases on_c a with q | ⟨i, hi, ho⟩
  · exact J5 (tgt_none q)
  · have hon : ∀ m, aO (sTickN m a) i = true := fun m => by rw [(tickN_f m a).2.1]; exact ho
    rw [tgt_on hi ho] at J5 ⊢
    rcases tg_f 2000 0 a with ⟨h1, _⟩ | ⟨k, h1, h2, h3, h4⟩
    · exact J5 h1
    · rw [h2, Nat.zero_add]
      clear J5
      have e1 : (1 : Int32) = nI 1 := rfl
      have e999 : (999 : Int32) = nI 999 := rfl
      have e2000 : (2000 : Int32) = nI 2000 := rfl
      by_cases k0 : k = 0
      · subst k0
        rw [if_pos (by decide)]
        unfold sh_L_togetherSo_j17
        rw [if_pos (by decide)]
        exact ⟨G3, rfl, S3⟩
      · rw [if_neg (by rw [e1, nI_ltI (by omega) (by omega)]; omega)]
        by_cases k9 : k ≤ 999
        · rw [if_pos (by rw [e999, nI_leI (by omega) (by omega)]; omega)]
          obtain ⟨G17, e17, S17⟩ := qc_pass (m := k) S3 l03 (by omega) k9 i0.1 (by omega)
          obtain ⟨r, r1, r2, r3⟩ := tog_sp S17 hi (hon k)
          obtain ⟨u, G30, u1, e30, S30⟩ := qc_undo S17
          rw [e17, obi_s, if_neg (blinks_d hv (by omega)), r1, obp_s, if_pos (r3.mpr h3), e30, obi_s, if_neg (nI_nn u1)]
          unfold sh_L_togetherSo_j103
          rw [if_neg n10]
          by_cases k1 : k = 1
          · rw [if_pos (by rw [k1]; rfl)]
            exact ⟨G30, rfl, S30⟩
          · rw [if_neg (show ¬ nI k = 1 from fun h => k1 (nI_inj (by omega) (by omega) (show nI k = nI 1 from h))), nI_sub1 (by omega)]
            obtain ⟨G20, e20, S20⟩ := qc_pass (m := k - 1) S30 l03 (by omega) (by omega) i0.1 (by omega)
            obtain ⟨r, r1, r2, r3⟩ := tog_sp S20 hi (hon (k - 1))
            obtain ⟨u, G25, u1, e25, S25⟩ := qc_undo S20
            have hr : r ≠ 0 := fun h => h4 (k - 1) (by omega) (r3.mp h)
            have hr2 : ¬ r ≤ 0 := by
              rw [I_le, I_0]
              have : r.toInt ≠ 0 := fun h => hr (by rw [I_eq, I_0]; exact h)
              omega
            rw [e20, obi_s, if_neg (blinks_d hv (by omega)), r1, obp_s, if_neg hr2, e25, obi_s, if_neg (nI_nn u1)]
            exact ⟨G25, rfl, S25⟩
        · rw [if_neg (by rw [e999, nI_leI (by omega) (by omega)]; omega)]
          unfold sh_L_togetherSo_j17
          rw [if_neg (nI_ne0 (by omega) (by omega))]
          have hm5 : ¬ nI k = -5 := fun h => by
            have h' := congrArg Int32.toInt h
            rw [nI_toInt (by omega)] at h'
            have e5 : (-5 : Int32).toInt = -5 := by decide
            omega
          rw [if_neg hm5, if_neg (by rw [e2000, nI_ltI (by omega) (by omega)]; omega)]
          obtain ⟨G6, e6, S6⟩ := qc_pass (m := 999) S3 l03 (by omega) (by omega) i0.1 (by omega)
          have e6' : sh_X3_pass 999 G3 = _ := e6
          obtain ⟨r, r1, r2, r3⟩ := tog_sp S6 hi (hon 999)
          have hr : r ≠ 0 := fun h => h4 999 (by omega) (r3.mp h)
          have hr2 : ¬ r ≤ 0 := by
            rw [I_le, I_0]
            have : r.toInt ≠ 0 := fun h => hr (by rw [I_eq, I_0]; exact h)
            omega
          obtain ⟨G11, e11, S11⟩ := qc_together S6
          have ht : sTgt (sTickN 999 a) = nI k - 999 := by
            have hk : nI k - 999 = nI (k - 999) := by
              rw [I_eq, e999, I_sub (by rw [nI_toInt (by omega), nI_toInt (by omega)]; omega) (by rw [nI_toInt (by omega), nI_toInt (by omega)]; omega), nI_toInt (by omega), nI_toInt (by omega), nI_toInt (by omega)]
              omega
            rw [tgt_on hi (hon 999), hk]
            have hk2 : pTog (sTickN (k - 999) (sTickN 999 a)) := by
              rw [← tickN_add, show 999 + (k - 999) = k by omega]; exact h3
            have hk3 : ∀ j, j < k - 999 → ¬ pTog (sTickN j (sTickN 999 a)) := fun j hj => by
              rw [← tickN_add]; exact h4 (999 + j) (by omega)
            rcases tg_f 2000 0 (sTickN 999 a) with ⟨_, g2⟩ | ⟨j, g1, g2, g3, g4⟩
            · exact absurd hk2 (g2 (k - 999) (by omega))
            · rw [g2, Nat.zero_add]
              have : j = k - 999 := by
                rcases Nat.lt_trichotomy j (k - 999) with z | z | z
                · exact absurd g3 (hk3 j z)
                · exact z
                · exact absurd hk2 (g4 (k - 999) z)
              rw [this]
          obtain ⟨u, G14, u1, e14, S14⟩ := qc_undo S11
          rw [e6', obi_s, if_neg (blinks_d hv (by omega)), r1, obp_s, if_neg hr2, e11, obi_s, if_pos ht, e14, obi_s, if_neg (nI_nn u1)]
          exact ⟨G14, rfl, S14⟩
