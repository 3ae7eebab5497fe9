-- the law's look at one lamp
theorem ifb' {α : Sort _} (b : Bool) (x y : α) : (if b2i b = 1 then x else y) = if b then x else y := by cases b <;> rfl
theorem ifb0 {α : Sort _} (b : Bool) (x y : α) : (if b2i b = 0 then x else y) = if b then y else x := by cases b <;> rfl
set_option maxHeartbeats 1000000 in
theorem L_isLamp_step {G : gG} {a : AM} {us : List AM} (S : SC G a us) (hp : hasPc a) {i j : Nat} (hi : i < 16) (hj : j < 16) (ht : aT a i = true) (kt : Int32 → Option Int32) (self : Int32 → Int32 → Int32 → Int32 → Int32 → Int32 → Int32 → Option Int32) : sh_L_isLamp_j201 G kt self (nI i) (bS (aL a i)) (bS (pcOf a i)) (bS (sAg a i)) (b2i (aO a i)) (nI j) (b2i (aL a i j)) = self (nI i) (bS (aL a i)) (bS (pcOf a i)) (bS (sAg a i)) (b2i (aO a i)) 1 (nI (j + 1)) := by
  have hs := S.2.1.2.1
  have F : sh_L_isLamp_j312 G kt self (nI i) (bS (aL a i)) (bS (pcOf a i)) (bS (sAg a i)) (b2i (aO a i)) (nI j) = self (nI i) (bS (aL a i)) (bS (pcOf a i)) (bS (sAg a i)) (b2i (aO a i)) 1 (nI (j + 1)) := by
    have E0 : sAg a i j = false → sh_L_isLamp_j362 G kt self (nI i) (bS (aL a i)) (bS (pcOf a i)) (bS (sAg a i)) (b2i (aO a i)) (nI j) (b2i (sAg a i j)) = self (nI i) (bS (aL a i)) (bS (pcOf a i)) (bS (sAg a i)) (b2i (aO a i)) 1 (nI (j + 1)) := fun h => by
      unfold sh_L_isLamp_j362 sh_L_isLamp_j363
      rw [h, if_pos (show b2i false = 0 from rfl), nI_1 j]
    unfold sh_L_isLamp_j312
    rw [bit_is hj, ifb (sAg a i j) (fun x => sh_L_isLamp_j328 G kt self (nI i) (bS (aL a i)) (bS (pcOf a i)) (bS (sAg a i)) (b2i (aO a i)) (nI j) x)]
    unfold sh_L_isLamp_j328
    have hag : sAg a i j = (aO a i && (aO a j && decide (aN a 1 j = aN a 1 i))) := rfl
    rw [L_isOn S hj, obp_s, ifb0]
    cases h1 : aO a i
    · rw [h1] at E0
      exact E0 (by rw [hag, h1]; rfl)
    · rw [h1] at E0
      show (if b2i (aO a j) = 0 then _ else _) = _
      rw [ifb0]
      cases h2 : aO a j
      · exact E0 (by rw [hag, h1, h2]; rfl)
      · show (obp (sh_X3_lamp (nI j) 0 G) fun r16 => (obp (sh_X3_lamp (nI i) 0 G) fun r18 => _)) = _
        rw [ql0 S hj (S.2.1.1 j hj h2), obp_s, ql0 S hi ht, obp_s]
        by_cases q : aN a 1 j = aN a 1 i
        · rw [if_pos q]
          unfold sh_L_isLamp_j363
          rw [if_pos (by rw [hag, h1, h2, decide_eq_true q]; rfl), nI_1 j]
        · rw [if_neg q]
          exact E0 (by rw [hag, h1, h2, decide_eq_false q]; rfl)
  have E : sh_L_isLamp_j288 G kt self (nI i) (bS (aL a i)) (bS (pcOf a i)) (bS (sAg a i)) (b2i (aO a i)) (nI j) (b2i (aL a i j)) (b2i (pcOf a i j)) = self (nI i) (bS (aL a i)) (bS (pcOf a i)) (bS (sAg a i)) (b2i (aO a i)) 1 (nI (j + 1)) := by
    unfold sh_L_isLamp_j288
    rw [L_isOn S hj, obp_s, ifb0, ifb0, ifb0, ifb0, F]
    cases h1 : aL a i j
    · rfl
    · cases h2 : aO a i
      · rfl
      · cases h3 : aO a j
        · rfl
        · rw [pc_link hp hi hj h2 h3 h1]; rfl
  unfold sh_L_isLamp_j201
  rw [bit_is hj, ifb (pcOf a i j) (fun x => sh_L_isLamp_j218 G kt self (nI i) (bS (aL a i)) (bS (pcOf a i)) (bS (sAg a i)) (b2i (aO a i)) (nI j) (b2i (aL a i j)) x)]
  have D : sh_L_isLamp_j250 G kt self (nI i) (bS (aL a i)) (bS (pcOf a i)) (bS (sAg a i)) (b2i (aO a i)) (nI j) (b2i (aL a i j)) (b2i (pcOf a i j)) = self (nI i) (bS (aL a i)) (bS (pcOf a i)) (bS (sAg a i)) (b2i (aO a i)) 1 (nI (j + 1)) := by
    unfold sh_L_isLamp_j250 sh_L_isLamp_j255
    rw [if_neg n10, ifb0, E, L_isOn S hj, obp_s, ifb0]
    cases h1 : pcOf a i j
    · rfl
    · have ho := pc_on hp hi hj h1
      rw [ho]
      show (obp (sh_X3_lamp (nI j) 7 G) fun r24 => _) = _
      rw [ql7 S hj (S.2.1.1 j hj ho), obp_s, if_pos (pc_same hp hs hi hj h1)]
  unfold sh_L_isLamp_j218
  rw [ifb0, D, L_isThere S hj, obp_s, ifb0]
  cases h1 : aL a i j
  · rfl
  · have h2 : aL a j i = true := by rw [← hs i j hi hj]; exact h1
    have htj := S.2.1.2.2.1 j i hj hi h2
    rw [htj]
    show (obp (sh_X3_lamp (nI j) 6 G) fun r28 => _) = _
    rw [ql6 S hj htj, obp_s, bit_is hi, ifb', h2]
    rfl
theorem ag_on {a : AM} {i : Nat} (hi : i < 16) : bS (sAg a i) = 0 ↔ aO a i = false := by
  rw [bS_0]
  constructor
  · intro h
    have := h i hi
    cases ho : aO a i
    · rfl
    · unfold sAg at this
      rw [ho] at this; simp at this
  · intro h k hk
    unfold sAg; rw [h]; rfl
theorem pcb_on {a : AM} (hp : hasPc a) {i : Nat} (hi : i < 16) : bS (pcOf a i) = 0 ↔ aO a i = false := by
  rw [bS_0]
  constructor
  · intro h
    cases ho : aO a i
    · rfl
    · have := h i hi
      rw [pc_self hp hi ho] at this; cases this
  · intro h k hk
    exact pc_off hp hi hk h
set_option maxHeartbeats 1000000 in
theorem L_isLamp {G : gG} {a : AM} {us : List AM} {n : Nat} (S : SC G a us) (hv : inv n a) (hp : hasPc a) {i : Nat} (hi : i < 16) (ht : aT a i = true) : sh_L_isLamp (nI i) G = some 1 := by
  have hloop : sh_L_isLamp_174 G (fun l6 => (if nbB l6 = true then some l6 else none)) FU (nI i) (bS (aL a i)) (bS (pcOf a i)) (bS (sAg a i)) (b2i (aO a i)) 1 0 = some 1 := by
    obtain ⟨s, _, h2⟩ := forl 16 (fun n j (_ : Unit) => sh_L_isLamp_174 G (fun l6 => (if nbB l6 = true then some l6 else none)) n (nI i) (bS (aL a i)) (bS (pcOf a i)) (bS (sAg a i)) (b2i (aO a i)) 1 (nI j)) (fun _ _ => True) (fun _ => some 1) (by
      intro n s _
      show sh_L_isLamp_174 G _ (n + 1) _ _ _ _ _ _ (nI 16) = _
      rw [sh_L_isLamp_174.eq_2, if_pos (by decide), if_pos (by decide)]) (by
      intro n j s hj _
      refine ⟨(), trivial, ?_⟩
      show sh_L_isLamp_174 G _ (n + 1) _ _ _ _ _ _ (nI j) = _
      rw [sh_L_isLamp_174.eq_2, if_neg (nj16 hj), if_neg n10, bit_is hj, ifb (aL a i j) (fun x => sh_L_isLamp_j201 G _ _ (nI i) (bS (aL a i)) (bS (pcOf a i)) (bS (sAg a i)) (b2i (aO a i)) (nI j) x)]
      exact L_isLamp_step S hp hi hj ht _ _) 16 0 FU () rfl (by decide) trivial
    exact h2
  obtain ⟨hw, v2, v3, v4⟩ := hv
  obtain ⟨p1, p2, p3, p4, p5⟩ := hw.2.2.2.1 i hi ht
  obtain ⟨l1, l2, l3, l4, l5⟩ := v3 i hi ht
  have e100 : (100 * aG a 5).toInt = 100 * (aG a 5).toInt := by
    rw [Int32.mul_comm, i100 (by have := hw.2.2.2.2.1; omega) hw.2.2.2.2.2.1]; omega
  have e50 : (50 : Int32).toInt = 50 := by decide
  have e150 : (150 : Int32).toInt = 150 := by decide
  unfold sh_L_isLamp
  rw [ql6 S hi ht, obp_s, ql7 S hi ht, obp_s, ql8 S hi ht, obp_s, L_isOn S hi, obp_s, ql0 S hi ht, obp_s, qk9 S, obp_s, if_neg (by rw [I_le, e100]; omega), ql1 S hi ht, obp_s, if_neg (by rw [I_lt, e50]; omega), obp_s, if_neg (by rw [I_lt, e150]; omega), ql3 S hi ht, obp_s, if_neg (by rw [I_lt, I_0]; omega), ql5 S hi ht, obp_s, qk0 S, obp_s, if_neg (by rw [I_lt]; omega), ql4 S hi ht, obp_s]
  have hj110 : ∀ x : Int32, (x = if aN a 5 i = 0 then 1 else 0) → sh_L_isLamp_j110 G (nI i) (bS (aL a i)) (bS (pcOf a i)) (bS (sAg a i)) (b2i (aO a i)) x = some 1 := by
    intro x hx
    unfold sh_L_isLamp_j110
    rw [ql5 S hi ht, obp_s]
    have hj124 : ∀ y : Int32, y = x → sh_L_isLamp_j124 G (nI i) (bS (aL a i)) (bS (pcOf a i)) (bS (sAg a i)) (b2i (aO a i)) x y = some 1 := by
      intro y hy
      unfold sh_L_isLamp_j124
      rw [if_pos hy.symm, bit_is hi, v2 i hi, if_pos (show b2i false = 0 from rfl)]
      have hj144 : ∀ z : Int32, z = b2i (aO a i) → sh_L_isLamp_j144 G (nI i) (bS (aL a i)) (bS (pcOf a i)) (bS (sAg a i)) (b2i (aO a i)) z = some 1 := by
        intro z hz
        unfold sh_L_isLamp_j144
        rw [if_pos hz]
        have hj159 : ∀ z : Int32, z = b2i (aO a i) → sh_L_isLamp_j159 G (nI i) (bS (aL a i)) (bS (pcOf a i)) (bS (sAg a i)) (b2i (aO a i)) z = some 1 := by
          intro z hz
          unfold sh_L_isLamp_j159
          rw [if_pos hz]
          exact hloop
        by_cases q : bS (sAg a i) = 0
        · rw [if_pos q]; exact hj159 0 (by rw [(ag_on hi).mp q]; rfl)
        · rw [if_neg q]
          refine hj159 1 ?_
          cases ho : aO a i
          · exact absurd ((ag_on hi).mpr ho) q
          · rfl
      by_cases q : bS (pcOf a i) = 0
      · rw [if_pos q]; exact hj144 0 (by rw [(pcb_on hp hi).mp q]; rfl)
      · rw [if_neg q]
        refine hj144 1 ?_
        cases ho : aO a i
        · exact absurd ((pcb_on hp hi).mpr ho) q
        · rfl
    have hiff : aN a 5 i = 0 ↔ aN a 6 i = 0 := by rw [I_eq, I_0, I_eq, I_0]; exact l4
    by_cases q : aN a 6 i = 0
    · rw [if_pos q]; exact hj124 1 (by rw [hx, if_pos (hiff.mpr q)])
    · rw [if_neg q]; exact hj124 0 (by rw [hx, if_neg (fun h => q (hiff.mp h))])
  by_cases q : aN a 5 i = 0
  · rw [if_pos q]; exact hj110 1 (by rw [if_pos q])
  · rw [if_neg q]; exact hj110 0 (by rw [if_neg q])
