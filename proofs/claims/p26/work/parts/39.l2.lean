-- the lamps that blink next
theorem cnt_b2i (B : Nat → Bool) (j : Nat) : nI (cnt B j) + b2i (B j) = nI (cnt B (j + 1)) := by
  show _ = nI (cnt B j + (B j).toNat)
  rw [← nI_add (cnt B j)]
  cases B j <;> rfl
set_option maxHeartbeats 1000000 in
theorem L_next_loop {G : gG} {z : AM} {us : List AM} (S : SC G z us) {B : Nat → Bool} {l1 l3 l4 : Int32} (hB : ∀ i, i < 16 → B i = true → aT z i = true) (h6 : ∀ i, i < 16 → aT z i = true → (aN z 6 i = l3 + l1 ↔ B i = true)) (kt : Int32 → Int32 → Int32 → Int32 → Int32 → gG → Option (Int32 × gG)) : sh_L_nextSo_108 kt FU l1 (bS B) l3 l4 0 1 0 G = kt l1 l3 l4 (nI (cnt B 16)) 1 G := by
  obtain ⟨s, _, h2⟩ := forl 16 (fun n j (_ : Unit) => sh_L_nextSo_108 kt n l1 (bS B) l3 l4 (nI (cnt B j)) 1 (nI j) G) (fun _ _ => True) (fun _ => kt l1 l3 l4 (nI (cnt B 16)) 1 G) (by
    intro n s _
    show sh_L_nextSo_108 kt (n + 1) _ _ _ _ _ _ (nI 16) _ = _
    rw [sh_L_nextSo_108.eq_2, if_pos (by decide)]) (by
    intro n j s hj _
    refine ⟨(), trivial, ?_⟩
    show sh_L_nextSo_108 kt (n + 1) _ _ _ _ _ _ (nI j) _ = _
    rw [sh_L_nextSo_108.eq_2, if_neg (nj16 hj), bit_is hj, bni_s, if_neg n10, cnt_b2i, ifb (B j) (fun x => sh_L_nextSo_j146 kt (sh_L_nextSo_108 kt n) l1 (bS B) l3 l4 (nI (cnt B (j + 1))) (nI j) x G)]
    unfold sh_L_nextSo_j146
    rw [L_isThere S hj, obp_s, ifb0]
    have E0 : B j = false → sh_L_nextSo_j172 kt (sh_L_nextSo_108 kt n) l1 (bS B) l3 l4 (nI (cnt B (j + 1))) (nI j) (b2i (B j)) G = sh_L_nextSo_108 kt n l1 (bS B) l3 l4 (nI (cnt B (j + 1))) 1 (nI (j + 1)) G := fun h => by
      unfold sh_L_nextSo_j172 sh_L_nextSo_j173
      rw [h, if_pos (show b2i false = 0 from rfl), nI_1 j]
    cases ht : aT z j
    · refine E0 ?_
      cases hb : B j
      · rfl
      · have := hB j hj hb
        rw [ht] at this; cases this
    · show (obp (sh_X3_lamp (nI j) 5 G) fun r16 => _) = _
      rw [ql5 S hj ht, obp_s]
      by_cases q : aN z 6 j = l3 + l1
      · rw [if_pos q]
        unfold sh_L_nextSo_j173
        rw [if_pos (by rw [(h6 j hj ht).mp q]; rfl), nI_1 j]
      · rw [if_neg q]
        refine E0 ?_
        cases hb : B j
        · rfl
        · exact absurd ((h6 j hj ht).mpr hb) q) 16 0 FU () rfl (by decide) trivial
  exact h2
set_option maxHeartbeats 1000000 in
theorem L_nextSo {G : gG} {a : AM} {n : Nat} (S : SC G a []) (hv : inv n a) (hn : n ≤ 50000) : ∃ G', sh_L_nextSo G = some (1, G') ∧ SC G' a [] := by
  have i0 := inv_0 hv
  have hw := hv.1
  unfold sh_L_nextSo
  rcases on_c a with q | ⟨i, hi, ho⟩
  · obtain ⟨h1, h2⟩ := qc_next_none S q
    rw [h1, obi_s, h2, obi_s, qk0 S, obp_s, qk5 S, obp_s, if_pos rfl, if_pos rfl, qk2 S, obp_s, cnt_0.mpr q, if_pos (show nI 0 = 0 from rfl)]
    exact ⟨G, rfl, S⟩
  · obtain ⟨m, m1, m2, m3, m4, m5, m6⟩ := nx_f hi 400 0 a rfl hw ho (by have := (hw.2.2.2.1 i hi (hw.1 i hi ho)).1; omega)
    rw [Nat.zero_add] at m3
    obtain ⟨⟨G3, e3, S3⟩, _⟩ := qc_next S hi ho
    obtain ⟨_, ⟨G6, e6, S6⟩⟩ := qc_next S3 hi ho
    rw [m3] at e3
    rw [m4] at e6
    have hm5 : ¬ nI m = -5 := fun h => by
      have h' := congrArg Int32.toInt h
      rw [nI_toInt (by omega)] at h'
      have e5 : (-5 : Int32).toInt = -5 := by decide
      omega
    rw [e3, obi_s, e6, obi_s, qk0 S6, obp_s, qk5 S6, obp_s, if_neg hm5, if_neg (nI_nle (by omega) (by omega)), if_neg (by rw [show (400 : Int32) = nI 400 from rfl, nI_ltI (by omega) (by omega)]; omega)]
    -- behind the quiet ticks
    obtain ⟨y, hy⟩ : ∃ y, y = sTickN (m - 1) a := ⟨_, rfl⟩
    obtain ⟨B, hBe⟩ : ∃ B, B = (sTick y).2 := ⟨_, rfl⟩
    obtain ⟨q1, q2⟩ := quiet_f (m := m - 1) (a := a) (fun k hk => m6 k (by omega))
    have hyv : inv (n + (m - 1)) y := by rw [hy]; exact inv_ticks (m - 1) n hv (by omega)
    have hyf := tickN_f (m - 1) a
    rw [← hy] at q1 q2 hyf m5 ⊢
    rw [← hBe] at m5 ⊢
    have iy := inv_0 hyv
    obtain ⟨P, f1, f2, f3, f4, t0, t1, t2, t3, t4, t5, t6, t7, t8⟩ := tick_f y
    rw [← hBe] at t1 t6 t7
    have hc16 := cnt_le B 16
    have b1 := inv_b1 hyv (by omega)
    have hlm : aG y 0 + 1 = aG a 0 + nI m := by
      rw [hyf.2.2.2.2.1, Int32.add_assoc, nI_1, show m - 1 + 1 = m by omega]
    have J : ∀ (G : gG) (us : List AM), SC G y us → ((m = 1 ∧ us = [] ∧ y = a) ∨ (m ≠ 1 ∧ us = [a])) → ∃ G', sh_L_nextSo_j90 (nI m) (bS B) (aG a 0) (aG a 1) 0 G = some (1, G') ∧ SC G' a [] := by
      intro G us S hus
      have hl : us.length ≤ 3 := by
        rcases hus with ⟨_, h, _⟩ | ⟨_, h⟩
        · rw [h]; exact l03
        · rw [h]; exact Nat.le_of_ble_eq_true rfl
      obtain ⟨G41, e41, S41⟩ := qc_pass (m := 1) S hl (by decide) (by decide) iy.1 (by omega)
      have e41' : sh_X3_pass 1 G = some (aG (sTick y).1 1 - aG y 1, G41) := e41
      have S41' : SC G41 (sTick y).1 (us ++ [y]) := S41
      have hr : ¬ aG (sTick y).1 1 - aG y 1 ≤ 0 := by
        have e1 : (aG (sTick y).1 1).toInt = (aG y 1).toInt + cnt B 16 := by rw [t1]; exact I_addn (by omega) (by omega)
        rw [I_le, I_0, I_sub (by omega) (by omega), e1]
        omega
      unfold sh_L_nextSo_j90
      rw [e41', obi_s, if_neg hr]
      rw [L_next_loop (z := (sTick y).1) (B := B) (l1 := nI m) (l3 := aG a 0) (l4 := aG a 1) S41' (fun k hk hb => by rw [f1]; exact hyv.1.1 k hk (t7 k hb)) (fun k hk ht => ?_) _]
      · obtain ⟨u1, G48, w1, e48, S48⟩ := qc_undo S41'
        rw [if_neg n10, qk5 S41', obp_s, if_pos (by rw [t1, q1]), qk0 S41', obp_s, if_pos (by rw [t0]; exact hlm), e48, obi_s, if_neg (nI_nn w1)]
        rcases hus with ⟨h1, h, hya⟩ | ⟨h1, h⟩
        · rw [if_pos (by rw [h1]; rfl)]
          unfold sh_L_nextSo_j237
          rw [h, hya] at S48
          rw [qk0 S48, obp_s, if_pos rfl]
          exact ⟨G48, rfl, S48⟩
        · rw [if_neg (show ¬ nI m = 1 from fun hh => h1 (nI_inj (by omega) (by omega) (show nI m = nI 1 from hh)))]
          rw [h] at S48
          obtain ⟨u2, G51, w2, e51, S51⟩ := qc_undo (us := []) S48
          rw [e51, obi_s, if_neg (nI_nn w2)]
          unfold sh_L_nextSo_j237
          rw [qk0 S51, obp_s, if_pos rfl]
          exact ⟨G51, rfl, S51⟩
      · rw [f1] at ht
        have ht' : aT a k = true := by rw [← hyf.1]; exact ht
        have p6 := (hyv.2.2.1 k hk ht).2.2.1
        rw [← hlm, (t6 k).2.2.1]
        cases hb : B k
        · refine ⟨fun h => ?_, fun h => by cases h⟩
          exfalso
          have h' : (aN y 6 k).toInt = (aG y 0 + 1).toInt := congrArg Int32.toInt h
          rw [I_add1 iy.1 (by omega)] at h'
          omega
        · exact ⟨fun _ => rfl, fun _ => rfl⟩
    by_cases k1 : m = 1
    · rw [if_pos (by rw [k1]; rfl)]
      have hya : y = a := by rw [hy, k1]; rfl
      rw [← hya] at S6
      exact J G6 [] S6 (Or.inl ⟨k1, rfl, hya⟩)
    · rw [if_neg (show ¬ nI m = 1 from fun hh => k1 (nI_inj (by omega) (by omega) (show nI m = nI 1 from hh))), nI_sub1 m1]
      obtain ⟨G64, e64, S64⟩ := qc_pass (m := m - 1) S6 l03 (by omega) (by omega) i0.1 (by omega)
      rw [← hy] at e64 S64
      have hz : aG y 1 - aG a 1 = 0 := by rw [q1]; exact Int32.sub_self _
      rw [e64, obi_s, if_pos hz, qk5 S64, obp_s, if_pos q1]
      exact J G64 [a] S64 (Or.inr ⟨k1, rfl⟩)
