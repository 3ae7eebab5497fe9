-- a link more or less, and the best link
theorem nI_m1 {k : Nat} (h : 1 ≤ k) (hk : k < 1000) : nI k + -1 = nI (k - 1) := by
  have e : (-1 : Int32).toInt = -1 := by decide
  rw [I_eq, I_add (by rw [nI_toInt (by omega), e]; omega) (by rw [nI_toInt (by omega), e]; omega), nI_toInt (by omega), nI_toInt (by omega), e]
  omega
theorem qk3' {a : AM} : nI (dsum (fun r => cnt (aL a r) 16) 16) / 2 = nI (lkN a / 2) := nI_half (k := lkN a) (by have := lk_le a; omega)
set_option maxHeartbeats 1000000 in
theorem L_linkedSo {G : gG} {a : AM} {n x y : Nat} (S : SC G a []) (hv : inv n a) (hx : x < 16) (hy : y < 16) : ∃ G', sh_L_linkedSo (nI x) (nI y) G = some (1, G') ∧ SC G' a [] := by
  have hw := hv.1
  unfold sh_L_linkedSo
  cases htx : aT a x
  · rw [qc_ifLinked_f S (Or.inl (none_i hx htx)), obi_s, L_isThere S hx, obp_s, htx, if_pos (b_f rfl)]
    unfold sh_L_linkedSo_j23
    rw [if_pos rfl]
    exact ⟨G, rfl, S⟩
  · cases hty : aT a y
    · rw [qc_ifLinked_f S (Or.inr (none_i hy hty)), obi_s, L_isThere S hx, obp_s, htx, if_neg (b_t rfl), L_isThere S hy, obp_s, hty, if_pos (b_f rfl)]
      unfold sh_L_linkedSo_j23
      rw [if_pos rfl]
      exact ⟨G, rfl, S⟩
    · by_cases hxy : x = y
      · subst hxy
        rw [qc_ifLinked_e S hx htx, obi_s, L_isThere S hx, obp_s, htx, if_neg (b_t rfl), obp_s, if_neg (b_t rfl), if_pos rfl, if_pos rfl]
        exact ⟨G, rfl, S⟩
      · obtain ⟨G3, e3, S3⟩ := qc_ifLinked S hx hy htx hty hxy
        rw [e3, obi_s, L_isThere S3 hx, obp_s, htx, if_neg (b_t rfl), L_isThere S3 hy, obp_s, hty, if_neg (b_t rfl), if_neg (fun h => hxy (nI_inj (by omega) (by omega) h)), ql6 S3 hx htx, obp_s, bit_is hy, ifb (aL a x y) (fun z => sh_L_linkedSo_j71 (nI x) (nI y) (sTgt (sLink a x y (!aL a x y))) z G3)]
        have hl := lk_link (b := !aL a x y) hw hx hy hxy
        have hle := lk_le a
        obtain ⟨G14, e14, S14⟩ := (qc_link (b := !aL a x y) S3 l03 hx hy htx hty hxy).2 (by cases aL a x y <;> decide)
        rw [qk3'] at e14
        obtain ⟨G17, e17, S17⟩ := qc_together S14
        obtain ⟨u, G20, u1, e20, S20⟩ := qc_undo S17
        have J108 : ∀ z : Int32, nI (lkN (sLink a x y (!aL a x y)) / 2) = nI (lkN a / 2) + z → sh_L_linkedSo_j108 (sTgt (sLink a x y (!aL a x y))) (nI (lkN a / 2)) (nI (lkN (sLink a x y (!aL a x y)) / 2)) (nI (lkN a / 2)) z G14 = some (1, G20) := by
          intro z hz
          unfold sh_L_linkedSo_j108
          rw [if_pos hz, e17, obi_s, if_pos rfl, e20, obi_s, if_neg (nI_nn u1), qk3 S20, obp_s, if_pos rfl]
        refine ⟨G20, ?_, S20⟩
        unfold sh_L_linkedSo_j71
        rw [qk3 S3, obp_s, ifb0]
        cases hb : aL a x y
        · rw [hb] at hl e14 J108
          have hl' : lkN (sLink a x y (!false)) + 2 * 0 = lkN a + 2 * 1 := hl
          show sh_L_linkedSo_j93 _ _ _ _ _ 1 G3 = _
          unfold sh_L_linkedSo_j93
          have e14' : sh_X3_link (nI x) (nI y) 1 G3 = _ := e14
          rw [e14', obi_s, if_pos (show b2i false = 0 from rfl)]
          refine J108 1 ?_
          rw [nI_1, show lkN (sLink a x y (!false)) / 2 = lkN a / 2 + 1 by omega]
        · rw [hb] at hl e14 J108
          have hl' : lkN (sLink a x y (!true)) + 2 * 1 = lkN a + 2 * 0 := hl
          show sh_L_linkedSo_j93 _ _ _ _ _ 0 G3 = _
          unfold sh_L_linkedSo_j93
          have e14' : sh_X3_link (nI x) (nI y) 0 G3 = _ := e14
          rw [e14', obi_s, if_neg (show ¬ b2i true = 0 by decide)]
          refine J108 (-1) ?_
          rw [nI_m1 (by omega) (by omega), show lkN (sLink a x y (!true)) / 2 = lkN a / 2 - 1 by omega]
def bRep (o : Option (Nat × Int32)) (k : Nat) (l1 l2 : Int32) : Prop := (o = none ∧ l1 = -5 ∧ l2 = -5) ∨ ∃ b s, o = some (b, s) ∧ b < k ∧ l1 = nI b ∧ l2 = s ∧ 0 ≤ s.toInt
set_option maxHeartbeats 2000000 in
theorem L_bestSo {G : gG} {a : AM} {n : Nat} (S : SC G a []) (hv : inv n a) (hn : n ≤ 50000) : ∃ G', sh_L_bestSo G = some (1, G') ∧ SC G' a [] := by
  have hw := hv.1
  have i0 := inv_0 hv
  unfold sh_L_bestSo
  obtain ⟨s, ⟨h1, h2⟩, h3⟩ := forl 256 (fun n j (s : Int32 × Int32 × gG) => sh_L_bestSo_8 (fun l1 l2 G => (if (0 : Int32) ≤ l1 then (obi (sh_X3_bestLink (0 : Int32) G) fun r22 G23 => (if r22 = (l1 / (16 : Int32)) then (obi (sh_X3_bestLink (1 : Int32) G23) fun r25 G26 => (if r25 = (l1 - l1 / (16 : Int32) * (16 : Int32)) then (obi (sh_X3_bestLink (2 : Int32) G26) fun r28 G29 => (if r28 = l2 then some ((1 : Int32), G29) else some ((0 : Int32), G29))) else some ((0 : Int32), G26))) else some ((0 : Int32), G23))) else (obi (sh_X3_bestLink (0 : Int32) G) fun r31 G32 => (if r31 = (-5 : Int32) then (obi (sh_X3_bestLink (2 : Int32) G32) fun r34 G35 => (if r34 = (-5 : Int32) then some ((1 : Int32), G35) else some ((0 : Int32), G35))) else some ((0 : Int32), G32))))) n s.1 s.2.1 (nI j) s.2.2) (fun j s => SC s.2.2 a [] ∧ bRep (sBl a j) j s.1 s.2.1) (fun s => (if (0 : Int32) ≤ s.1 then (obi (sh_X3_bestLink (0 : Int32) s.2.2) fun r22 G23 => (if r22 = (s.1 / (16 : Int32)) then (obi (sh_X3_bestLink (1 : Int32) G23) fun r25 G26 => (if r25 = (s.1 - s.1 / (16 : Int32) * (16 : Int32)) then (obi (sh_X3_bestLink (2 : Int32) G26) fun r28 G29 => (if r28 = s.2.1 then some ((1 : Int32), G29) else some ((0 : Int32), G29))) else some ((0 : Int32), G26))) else some ((0 : Int32), G23))) else (obi (sh_X3_bestLink (0 : Int32) s.2.2) fun r31 G32 => (if r31 = (-5 : Int32) then (obi (sh_X3_bestLink (2 : Int32) G32) fun r34 G35 => (if r34 = (-5 : Int32) then some ((1 : Int32), G35) else some ((0 : Int32), G35))) else some ((0 : Int32), G32))))) (by
    intro n s _
    show sh_L_bestSo_8 _ (n + 1) _ _ (nI 256) _ = _
    rw [sh_L_bestSo_8.eq_2, if_pos (by decide)]) (by
    rintro n k ⟨l1, l2, G⟩ hk ⟨S, hR⟩
    dsimp only at S hR
    show ∃ s' : Int32 × Int32 × gG, _ ∧ sh_L_bestSo_8 _ (n + 1) l1 l2 (nI k) G = sh_L_bestSo_8 _ n s'.1 s'.2.1 (nI (k + 1)) s'.2.2
    obtain ⟨d1, d2⟩ := dv16 hk
    have hi : k / 16 < 16 := by omega
    have hj : k % 16 < 16 := by omega
    rw [sh_L_bestSo_8.eq_2, if_neg (by rw [show (256 : Int32) = nI 256 from rfl, nI_leI (by omega) (by omega)]; omega), d2, d1, nI_1 k]
    have skip : cB a (k / 16) (k % 16) = false → (SC (l1, l2, G).2.2 a [] ∧ bRep (sBl a (k + 1)) (k + 1) (l1, l2, G).1 (l1, l2, G).2.1) := fun h => by
      refine ⟨S, ?_⟩
      rw [sBl_f h]
      rcases hR with h | ⟨b, s, b1, b2, b3⟩
      · exact Or.inl h
      · exact Or.inr ⟨b, s, b1, by omega, b3⟩
    have hcb : cB a (k / 16) (k % 16) = (decide (k / 16 < k % 16) && (aO a (k / 16) && (aO a (k % 16) && !aL a (k / 16) (k % 16)))) := rfl
    by_cases q1 : k % 16 ≤ k / 16
    · rw [if_pos (by rw [nI_leI (by omega) (by omega)]; exact q1)]
      exact ⟨(l1, l2, G), skip (by rw [hcb, decide_eq_false (by omega)]; rfl), rfl⟩
    · rw [if_neg (by rw [nI_leI (by omega) (by omega)]; exact q1), L_isOn S hi, obp_s, ifb0]
      cases o1 : aO a (k / 16)
      · exact ⟨(l1, l2, G), skip (by rw [hcb, o1]; simp), rfl⟩
      · rw [if_pos rfl, L_isOn S hj, obp_s, ifb0]
        cases o2 : aO a (k % 16)
        · exact ⟨(l1, l2, G), skip (by rw [hcb, o2]; simp), rfl⟩
        · have t1 := hw.1 _ hi o1
          have t2 := hw.1 _ hj o2
          rw [if_pos rfl, ql6 S hi t1, obp_s, bit_is hj, ifb0]
          cases hl : aL a (k / 16) (k % 16)
          · have hij : k / 16 ≠ k % 16 := by omega
            have hlk := lk_link (b := true) hw hi hj hij
            rw [hl] at hlk
            have hlk' : lkN (sLink a (k / 16) (k % 16) true) + 2 * 0 = lkN a + 2 * 1 := hlk
            have hle := lk_le (sLink a (k / 16) (k % 16) true)
            obtain ⟨G9, e9, S9⟩ := (qc_link (b := true) S l03 hi hj t1 t2 hij).2 (by rw [hl]; decide)
            rw [qk3'] at e9
            have e9' : sh_X3_link (nI (k / 16)) (nI (k % 16)) 1 G = _ := e9
            have hvl := inv_link (b := true) hv hi hj t1 t2 hij
            obtain ⟨G12, e12, S12⟩ := qc_pass (m := 100) S9 l13 (by decide) (by decide) i0.1 (by have := i0.2; show (aG a 0).toInt + _ ≤ _; omega)
            have e12' : sh_X3_pass 100 G9 = _ := e12
            have hbl := blinks_d (m := 100) hvl (by omega)
            have ho : aO (sTickN 100 (sLink a (k / 16) (k % 16) true)) (k / 16) = true := by rw [(tickN_f 100 _).2.1]; exact o1
            obtain ⟨e14, hmx⟩ := qc_spread S12 hi ho
            have e14' : sh_X3_spread G12 = some (sp a (k / 16) (k % 16)) := e14
            have hsp0 : 0 ≤ (sp a (k / 16) (k % 16)).toInt := hmx.1
            obtain ⟨u1, G17, w1, e17, S17⟩ := qc_undo S12
            obtain ⟨u2, G20, w2, e20, S20⟩ := qc_undo (us := []) S17
            have hr8 : ¬ nI (lkN (sLink a (k / 16) (k % 16) true) / 2) < 1 := by
              rw [show (1 : Int32) = nI 1 from rfl, nI_ltI (by omega) (by omega)]; omega
            have hct : cB a (k / 16) (k % 16) = true := by rw [hcb, o1, o2, hl, decide_eq_true (by omega)]; rfl
            have J120 : ∀ (kt : Int32 → Int32 → gG → Option (Int32 × gG)) (x z : Int32), sh_L_bestSo_j120 kt (sh_L_bestSo_8 kt n) x (nI k) (nI (lkN (sLink a (k / 16) (k % 16) true) / 2)) (aG (sTickN 100 (sLink a (k / 16) (k % 16) true)) 1 - aG (sLink a (k / 16) (k % 16) true) 1) z G12 = sh_L_bestSo_8 kt n x z (nI (k + 1)) G20 := by
              intro kt x z
              unfold sh_L_bestSo_j120
              rw [if_neg hr8, if_neg hbl, e17, obi_s, if_neg (nI_nn w1), e20, obi_s, if_pos (nI_pos' (by omega)), nI_1 k]
            have J103 : ∀ (kt : Int32 → Int32 → gG → Option (Int32 × gG)), sh_L_bestSo_j103 kt (sh_L_bestSo_8 kt n) l2 (nI k) (nI (lkN (sLink a (k / 16) (k % 16) true) / 2)) (aG (sTickN 100 (sLink a (k / 16) (k % 16) true)) 1 - aG (sLink a (k / 16) (k % 16) true) 1) (sp a (k / 16) (k % 16)) G12 = sh_L_bestSo_8 kt n (nI k) (sp a (k / 16) (k % 16)) (nI (k + 1)) G20 := by
              intro kt
              unfold sh_L_bestSo_j103 sh_L_bestSo_j108
              rw [if_pos rfl]
              exact J120 kt _ _
            rw [if_neg (by decide), e9', obi_s, e12', obi_s, e14', obp_s]
            rcases hR with ⟨b1, b2, b3⟩ | ⟨b, s, b1, b2, b3, b4, b5⟩
            · rw [if_pos (show l1 < 0 by rw [b2]; decide), J103]
              refine ⟨(nI k, sp a (k / 16) (k % 16), G20), ⟨S20, Or.inr ⟨k, sp a (k / 16) (k % 16), ?_, by omega, rfl, rfl, hsp0⟩⟩, rfl⟩
              rw [sBl_t hct, b1]
            · rw [if_neg (show ¬ l1 < 0 by rw [b3]; exact nI_pos (by omega))]
              by_cases q : l2 ≤ sp a (k / 16) (k % 16)
              · rw [if_pos q]
                unfold sh_L_bestSo_j108
                rw [if_neg (show ¬ l1 = nI k from fun h => by
                  rw [b3] at h
                  have := nI_inj (by omega) (by omega) h
                  omega), J120]
                refine ⟨(l1, l2, G20), ⟨S20, Or.inr ⟨b, s, ?_, by omega, b3, b4, b5⟩⟩, rfl⟩
                rw [sBl_t hct, b1]
                show (if sp a (k / 16) (k % 16) < s then _ else _) = _
                rw [if_neg (by rw [← b4, I_lt]; rw [I_le] at q; omega)]
              · rw [if_neg q, J103]
                refine ⟨(nI k, sp a (k / 16) (k % 16), G20), ⟨S20, Or.inr ⟨k, sp a (k / 16) (k % 16), ?_, by omega, rfl, rfl, hsp0⟩⟩, rfl⟩
                rw [sBl_t hct, b1]
                show (if sp a (k / 16) (k % 16) < s then _ else _) = _
                rw [if_pos (by rw [← b4, I_lt]; rw [I_le] at q; omega)]
          · rw [if_pos rfl]
            exact ⟨(l1, l2, G), skip (by rw [hcb, hl]; simp), rfl⟩) 256 0 FU (-5, -5, G) rfl (by decide) ⟨S, Or.inl ⟨rfl, rfl, rfl⟩⟩
  have h3' : sh_L_bestSo_8 _ FU (-5) (-5) 0 G = _ := h3
  rw [h3']
  obtain ⟨l1, l2, G1⟩ := s
  dsimp only at h1 h2 ⊢
  obtain ⟨x2, x3, x4, hrep, hb⟩ := qc_best h1
  rcases h2 with ⟨b1, b2, b3⟩ | ⟨b, s, b1, b2, b3, b4, b5⟩
  · rcases hrep with ⟨o1, rfl, rfl, rfl⟩ | ⟨b, s, o1, _⟩
    · obtain ⟨G32, e32, S32⟩ := (hb G1 h1).1
      obtain ⟨G35, e35, S35⟩ := (hb G32 S32).2.2
      rw [if_neg (by rw [b2]; decide), e32, obi_s, if_pos rfl, e35, obi_s, if_pos rfl]
      exact ⟨G35, rfl, S35⟩
    · rw [b1] at o1; cases o1
  · rcases hrep with ⟨o1, _⟩ | ⟨b', s', o1, hb', rfl, rfl, rfl, _⟩
    · rw [b1] at o1; cases o1
    · rw [b1] at o1
      have hbb := Option.some.inj o1
      have h1b : b = b' := congrArg Prod.fst hbb
      have h2b : s = x4 := congrArg Prod.snd hbb
      subst h1b
      obtain ⟨G23, e23, S23⟩ := (hb G1 h1).1
      obtain ⟨G26, e26, S26⟩ := (hb G23 S23).2.1
      obtain ⟨G29, e29, S29⟩ := (hb G26 S26).2.2
      obtain ⟨d1, d2⟩ := dv16 b2
      rw [if_pos (by rw [b3]; exact nI_pos' (by omega)), e23, obi_s, b3, d2, d1, if_pos rfl, e26, obi_s, if_pos rfl, e29, obi_s, if_pos (by rw [b4, h2b])]
      exact ⟨G29, rfl, S29⟩
