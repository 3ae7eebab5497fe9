-- the model's row: reading and writing, one tick
abbrev M2 (G : gG) (a : AM) : Prop := R2 G 72 0 a
theorem ix_m {i f : Nat} : ((8 : Int32) + (9 : Int32) * nI i) + nI f = nI (8 + 9 * i + f) := by
  rw [show (8 : Int32) = nI 8 from rfl, show (9 : Int32) = nI 9 from rfl, pk_mul, nI_add, nI_add]
theorem X4_ofG {G : gG} {i f : Nat} (hi : i < 16) (hf : f < 9) : sh_X4_of (nI i) (nI f) G = some (G 72 (8 + 9 * i + f)) := by
  unfold sh_X4_of
  rw [ix_m, if_pos (gin_n (by omega) (by decide)), nI_clamp (by omega)]
theorem X4_putG {G : gG} {i f : Nat} {x : Int32} (hi : i < 16) (hf : f < 9) : sh_X4_put (nI i) (nI f) x G = some (gu G 72 (8 + 9 * i + f) x) := by
  unfold sh_X4_put
  rw [ix_m, if_pos (gin_n (by omega) (by decide)), nI_clamp (by omega), bng_s]
theorem X4_of0 {G : gG} {i : Nat} (hi : i < 16) : sh_X4_of (nI i) 0 G = some (G 72 (8 + 9 * i)) := X4_ofG (f := 0) hi (by decide)
theorem X4_of1 {G : gG} {i : Nat} (hi : i < 16) : sh_X4_of (nI i) 1 G = some (G 72 (8 + 9 * i + 1)) := X4_ofG (f := 1) hi (by decide)
theorem X4_of2 {G : gG} {i : Nat} (hi : i < 16) : sh_X4_of (nI i) 2 G = some (G 72 (8 + 9 * i + 2)) := X4_ofG (f := 2) hi (by decide)
theorem X4_of3 {G : gG} {i : Nat} (hi : i < 16) : sh_X4_of (nI i) 3 G = some (G 72 (8 + 9 * i + 3)) := X4_ofG (f := 3) hi (by decide)
theorem X4_of4 {G : gG} {i : Nat} (hi : i < 16) : sh_X4_of (nI i) 4 G = some (G 72 (8 + 9 * i + 4)) := X4_ofG (f := 4) hi (by decide)
theorem X4_of5 {G : gG} {i : Nat} (hi : i < 16) : sh_X4_of (nI i) 5 G = some (G 72 (8 + 9 * i + 5)) := X4_ofG (f := 5) hi (by decide)
theorem X4_of6 {G : gG} {i : Nat} (hi : i < 16) : sh_X4_of (nI i) 6 G = some (G 72 (8 + 9 * i + 6)) := X4_ofG (f := 6) hi (by decide)
theorem X4_of7 {G : gG} {i : Nat} (hi : i < 16) : sh_X4_of (nI i) 7 G = some (G 72 (8 + 9 * i + 7)) := X4_ofG (f := 7) hi (by decide)
theorem X4_of8 {G : gG} {i : Nat} (hi : i < 16) : sh_X4_of (nI i) 8 G = some (G 72 (8 + 9 * i + 8)) := X4_ofG (f := 8) hi (by decide)
theorem X4_put0 {G : gG} {i : Nat} {x : Int32} (hi : i < 16) : sh_X4_put (nI i) 0 x G = some (gu G 72 (8 + 9 * i) x) := X4_putG (f := 0) hi (by decide)
theorem X4_put1 {G : gG} {i : Nat} {x : Int32} (hi : i < 16) : sh_X4_put (nI i) 1 x G = some (gu G 72 (8 + 9 * i + 1) x) := X4_putG (f := 1) hi (by decide)
theorem X4_put2 {G : gG} {i : Nat} {x : Int32} (hi : i < 16) : sh_X4_put (nI i) 2 x G = some (gu G 72 (8 + 9 * i + 2) x) := X4_putG (f := 2) hi (by decide)
theorem X4_put3 {G : gG} {i : Nat} {x : Int32} (hi : i < 16) : sh_X4_put (nI i) 3 x G = some (gu G 72 (8 + 9 * i + 3) x) := X4_putG (f := 3) hi (by decide)
theorem X4_put4 {G : gG} {i : Nat} {x : Int32} (hi : i < 16) : sh_X4_put (nI i) 4 x G = some (gu G 72 (8 + 9 * i + 4) x) := X4_putG (f := 4) hi (by decide)
theorem X4_put5 {G : gG} {i : Nat} {x : Int32} (hi : i < 16) : sh_X4_put (nI i) 5 x G = some (gu G 72 (8 + 9 * i + 5) x) := X4_putG (f := 5) hi (by decide)
theorem X4_put6 {G : gG} {i : Nat} {x : Int32} (hi : i < 16) : sh_X4_put (nI i) 6 x G = some (gu G 72 (8 + 9 * i + 6) x) := X4_putG (f := 6) hi (by decide)
theorem X4_put7 {G : gG} {i : Nat} {x : Int32} (hi : i < 16) : sh_X4_put (nI i) 7 x G = some (gu G 72 (8 + 9 * i + 7) x) := X4_putG (f := 7) hi (by decide)
theorem X4_put8 {G : gG} {i : Nat} {x : Int32} (hi : i < 16) : sh_X4_put (nI i) 8 x G = some (gu G 72 (8 + 9 * i + 8) x) := X4_putG (f := 8) hi (by decide)
theorem m_t {G : gG} {a : AM} (h : M2 G a) {i : Nat} (hi : i < 16) : G 72 (8 + 9 * i) = b2i (aT a i) := by have := h.1 i hi; rwa [Nat.zero_add] at this
theorem m_o {G : gG} {a : AM} (h : M2 G a) {i : Nat} (hi : i < 16) (ht : aT a i = true) : G 72 (8 + 9 * i + 3) = b2i (aO a i) := by have := h.2.1 i hi ht; rwa [Nat.zero_add] at this
theorem m_l {G : gG} {a : AM} (h : M2 G a) {i : Nat} (hi : i < 16) : isS (G 72 (8 + 9 * i + 8)) (aL a i) := by have := h.2.2.1 i hi; rwa [Nat.zero_add] at this
theorem m_n {G : gG} {a : AM} (h : M2 G a) {f i : Nat} (hf : fld f) (hi : i < 16) (ht : aT a i = true) : G 72 (8 + 9 * i + mf f) = aN a f i := by have := h.2.2.2.1 f i hf hi ht; rwa [Nat.zero_add] at this
theorem m_g {G : gG} {a : AM} (h : M2 G a) {j : Nat} (hj : j < 8) : G 72 j = aG a j := by have := h.2.2.2.2 j hj; rwa [Nat.zero_add] at this
theorem M2.n {G : gG} {a : AM} (h : M2 G a) {f i : Nat} {x : Int32} (hf : fld f) (hi : i < 16) : M2 (gu G 72 (8 + 9 * i + mf f) x) (mN a f i x) := by have := R2.nu (x := x) h hf hi; rwa [Nat.zero_add] at this
theorem M2.g {G : gG} {a : AM} (h : M2 G a) {j : Nat} {x : Int32} (hj : j < 8) : M2 (gu G 72 j x) (mG a j x) := by have := R2.gl (x := x) h hj; rwa [Nat.zero_add] at this
theorem M2.o {G : gG} {a : AM} (h : M2 G a) {i : Nat} {b : Bool} (hi : i < 16) : M2 (gu G 72 (8 + 9 * i + 3) (b2i b)) (mO a (fun r => if r = i then b else aO a r)) := by have := R2.on (b := b) h hi; rwa [Nat.zero_add] at this
theorem M2.l {G : gG} {a : AM} (h : M2 G a) {i : Nat} {x : Int32} {S : Nat → Bool} (hx : isS x S) (hi : i < 16) : M2 (gu G 72 (8 + 9 * i + 8) x) (mL a i S) := by have := R2.lk h hx hi; rwa [Nat.zero_add] at this
theorem X4_isOn {G : gG} {a : AM} (h : M2 G a) (hOT : ∀ i, i < 16 → aO a i = true → aT a i = true) {i : Nat} (hi : i < 16) : sh_X4_isOn (nI i) G = some (b2i (aO a i)) := by
  unfold sh_X4_isOn
  rw [X4_of0 hi, obp_s, m_t h hi]
  cases ht : aT a i
  · have ho : aO a i = false := by
      cases q : aO a i
      · rfl
      · have := hOT i hi q; rw [ht] at this; cases this
    rw [ho, if_neg (by decide)]; rfl
  · rw [if_pos (by decide), X4_of3 hi, obp_s, m_o h hi ht]
    cases aO a i <;> rfl
theorem X4_round {G : gG} {a : AM} (h : M2 G a) : sh_X4_round G = some (sFull a) := by
  unfold sh_X4_round sFull
  rw [tc5, m_g h (by decide), Int32.mul_comm]
theorem X4_grow {G0 : gG} {a : AM} (hw : wf a) (hR0 : M2 G0 a) : ∃ G', sh_X4_grow G0 = some G' ∧ M2 G' (sGrow a) ∧ frq G0 G' 72 := by
  have key : ∃ s : gG, (M2 s (sUp 16 (sGrow a) a) ∧ frq G0 s 72) ∧ sh_X4_grow_2 (fun G => some G) FU (nI 0) G0 = some s := by
    refine forl 16 (fun n j s => sh_X4_grow_2 (fun G => some G) n (nI j) s) (fun j s => M2 s (sUp j (sGrow a) a) ∧ frq G0 s 72) (fun s => some s) ?_ ?_ 16 0 FU G0 rfl (by decide) ⟨hR0, frq.rf⟩
    · intro n s _
      show sh_X4_grow_2 _ (n + 1) (nI 16) s = _
      rw [sh_X4_grow_2.eq_2, if_pos (by decide)]
    · intro n j G hj ⟨hR, hF⟩
      have hnx : nI j + 1 = nI (j + 1) := nI_1 j
      show ∃ s', _ ∧ sh_X4_grow_2 _ (n + 1) (nI j) G = _
      rw [sh_X4_grow_2.eq_2, if_neg (nj16 hj), X4_isOn hR hw.1 hj, obp_s]
      have hu : ∀ f, aN (sUp j (sGrow a) a) f j = aN a f j := fun f => by show (if j < j then _ else _) = _; rw [if_neg (by omega)]
      show ∃ s', _ ∧ (if b2i (aO a j) = 0 then _ else _) = _
      cases ho : aO a j
      · rw [if_pos (b_f rfl), hnx]
        refine ⟨G, ⟨hR.congr (up_aE rfl rfl rfl rfl (fun f hf => ?_) (fun f i hi => rfl)), hF⟩, rfl⟩
        rw [hu]
        show _ = (if aO a j = true then _ else _)
        rw [ho]; rfl
      · have ht := hw.1 j hj ho
        have hN : ∀ f, fld f → G 72 (8 + 9 * j + mf f) = aN a f j := fun f hf => by rw [m_n hR hf hj ht, hu]
        have n1 : G 72 (8 + 9 * j + 1) = aN a 1 j := hN 1 fld1
        have n2 : G 72 (8 + 9 * j + 2) = aN a 2 j := hN 2 fld2
        have n3 : G 72 (8 + 9 * j + 4) = aN a 3 j := hN 3 fld3
        rw [if_neg (b_t rfl), X4_of1 hj, obp_s, X4_of2 hj, obp_s, X4_put1 hj, obv_s, X4_of4 hj, obp_s, gu_n2 (by omega), n1, n2, n3]
        have hR1 : M2 (gu G 72 (8 + 9 * j + 1) (aN a 1 j + aN a 2 j)) _ := hR.n (f := 1) fld1 hj
        have hg : ∀ f, fld f → aN (sGrow a) f j = (if f = 1 then aN a 1 j + aN a 2 j else if f = 3 then (if aN a 3 j ≤ 0 then aN a 3 j else aN a 3 j - 1) else aN a f j) := fun f _ => by
          show (if aO a j = true then _ else _) = _; rw [ho, if_pos rfl]
        have hd0 := (hw.2.2.2.1 j hj ht).2.2.2.2
        have fin : ∀ y, y = (if aN a 3 j ≤ 0 then aN a 3 j else aN a 3 j - 1) → ∃ s', (M2 s' (sUp (j + 1) (sGrow a) a) ∧ frq G0 s' 72) ∧ sh_X4_grow_j59 (fun G => some G) (sh_X4_grow_2 (fun G => some G) n) (nI j) (nI j) 4 y (gu G 72 (8 + 9 * j + 1) (aN a 1 j + aN a 2 j)) = sh_X4_grow_2 (fun G => some G) n (nI (j + 1)) s' := by
          intro y hy
          unfold sh_X4_grow_j59
          rw [X4_put4 hj, obv_s, hnx]
          refine ⟨_, ⟨((hR1.n (f := 3) (x := y) fld3 hj).congr (up_aE rfl rfl rfl rfl (fun f hf => ?_) (fun f i hi => ?_))), hF.gu.gu⟩, rfl⟩
          · rw [hg f hf]
            show (if f = 3 ∧ j = j then _ else if f = 1 ∧ j = j then _ else aN (sUp j (sGrow a) a) f j) = _
            rw [hu, hy]
            rcases hf with rfl | rfl | rfl | rfl | rfl | rfl <;> simp
          · show (if f = 3 ∧ i = j then _ else if f = 1 ∧ i = j then _ else aN (sUp j (sGrow a) a) f i) = _
            rw [if_neg (by omega), if_neg (by omega)]
        by_cases hd : aN a 3 j ≤ 0
        · rw [if_pos hd]
          refine fin 0 ?_
          rw [if_pos hd]
          rw [I_le, I_0] at hd
          rw [I_eq, I_0]; omega
        · rw [if_neg hd, obp_s]
          exact fin _ (by rw [if_neg hd])
  obtain ⟨s, ⟨h1, h2⟩, h3⟩ := key
  exact ⟨s, h3, h1.congr (up_16 rfl rfl rfl rfl), h2⟩
def mR (a : AM) (S : Nat → Bool) (i : Nat) : Bool := S i && sRipe a i
theorem X4_blink {G0 : gG} {a : AM} {x : Int32} {S : Nat → Bool} (hw : ∀ i, i < 16 → aO a i = true → aT a i = true) (hx : ∀ i, i < 16 → bt x i = S i) (hR0 : M2 G0 a) : ∃ r G', sh_X4_blink x G0 = some (r, G') ∧ M2 G' (sBlink a (mR a S)) ∧ isS r (mR a S) ∧ frq G0 G' 72 := by
  have key : ∃ s : Int32 × gG, (M2 s.2 (sUp 16 (sBlink a (mR a S)) a) ∧ isS s.1 (fun i => decide (i < 16) && mR a S i) ∧ frq G0 s.2 72) ∧ sh_X4_blink_4 (fun l2 G => some (l2, G)) FU x 0 (nI 0) G0 = some (s.1, s.2) := by
    refine forl 16 (fun n j s => sh_X4_blink_4 (fun l2 G => some (l2, G)) n x s.1 (nI j) s.2) (fun j s => M2 s.2 (sUp j (sBlink a (mR a S)) a) ∧ isS s.1 (fun i => decide (i < j) && mR a S i) ∧ frq G0 s.2 72) (fun s => some (s.1, s.2)) ?_ ?_ 16 0 FU (0, G0) rfl (by decide) ⟨hR0, isS_0.congr (fun i _ => by simp), frq.rf⟩
    · intro n s _
      show sh_X4_blink_4 _ (n + 1) x s.1 (nI 16) s.2 = _
      rw [sh_X4_blink_4.eq_2, if_pos (by decide)]
    · intro n j s hj ⟨hR, hS, hF⟩
      obtain ⟨z, G⟩ := s
      have hnx : nI j + 1 = nI (j + 1) := nI_1 j
      show ∃ s', _ ∧ sh_X4_blink_4 _ (n + 1) x z (nI j) G = _
      dsimp only at hR hS hF
      have hh : sh_X4_has x (nI j) = b2i (S j) := by rw [has_eq (by omega), hx j hj]; rfl
      rw [sh_X4_blink_4.eq_2, if_neg (nj16 hj), hh, X4_isOn hR hw hj, obp_s]
      have hu : ∀ f, aN (sUp j (sBlink a (mR a S)) a) f j = aN a f j := fun f => by show (if j < j then _ else _) = _; rw [if_neg (by omega)]
      have skip : mR a S j = false → ∃ s' : Int32 × gG, (M2 s'.2 (sUp (j + 1) (sBlink a (mR a S)) a) ∧ isS s'.1 (fun i => decide (i < j + 1) && mR a S i) ∧ frq G0 s'.2 72) ∧ sh_X4_blink_4 (fun l2 G => some (l2, G)) n x z (nI (j + 1)) G = sh_X4_blink_4 (fun l2 G => some (l2, G)) n x s'.1 (nI (j + 1)) s'.2 := by
        intro hm
        refine ⟨(z, G), ⟨hR.congr (up_aE rfl rfl rfl rfl (fun f hf => ?_) (fun f i hi => rfl)), hS.congr (fun i hi => ?_), hF⟩, rfl⟩
        · rw [hu]
          show _ = (if mR a S j = true then _ else _)
          rw [hm]; rfl
        · by_cases e : i = j
          · subst e; rw [hm]; simp
          · rw [lt_s16 e]
      cases hs : S j
      · rw [if_pos (b_f rfl), hnx]
        exact skip (by unfold mR; rw [hs]; rfl)
      · rw [if_neg (b_t rfl)]
        show ∃ s', _ ∧ (if b2i (aO a j) = 0 then _ else _) = _
        cases ho : aO a j
        · rw [if_pos (b_f rfl), hnx]
          exact skip (by unfold mR sRipe; rw [ho]; simp)
        · have ht := hw j hj ho
          have hN : ∀ f, fld f → G 72 (8 + 9 * j + mf f) = aN a f j := fun f hf => by rw [m_n hR hf hj ht, hu]
          have n1 : G 72 (8 + 9 * j + 1) = aN a 1 j := hN 1 fld1
          have n5 : G 72 (8 + 9 * j + 5) = aN a 5 j := hN 5 fld5
          have g7 : G 72 7 = aG a 7 := m_g hR (by decide)
          have g0 : G 72 0 = aG a 0 := m_g hR (by decide)
          rw [if_neg (b_t rfl), X4_of1 hj, obp_s, X4_round hR, obp_s, n1]
          show ∃ s', _ ∧ (if aN a 1 j < sFull a then _ else _) = _
          by_cases hlt : aN a 1 j < sFull a
          · rw [if_pos hlt, hnx]
            exact skip (by unfold mR sRipe; simp [hlt])
          · have hm : mR a S j = true := by unfold mR sRipe; rw [hs, ho]; simp [hlt]
            rw [if_neg hlt, X4_put1 hj, obv_s, tc7, gu_n2 (by omega), g7, X4_put4 hj, obv_s, X4_of5 hj, obp_s, gu_n2 (by omega), gu_n2 (by omega), n5, X4_put5 hj, obv_s, tc0, gu_n2 (by omega), gu_n2 (by omega), gu_n2 (by omega), g0, X4_put6 hj, obv_s, hnx]
            refine ⟨(z ||| (1 : Int32) <<< (nI j &&& 31), _), ⟨((((hR.n (f := 1) (x := 0) fld1 hj).n (f := 3) (x := aG a 7) fld3 hj).n (f := 5) (x := aN a 5 j + 1) fld5 hj).n (f := 6) (x := aG a 0 + 1) fld6 hj).congr (up_aE rfl rfl rfl rfl (fun f hf => ?_) (fun f i hi => ?_)), (hS.add hj).congr (fun i hi => ?_), hF.gu.gu.gu.gu⟩, rfl⟩
            · show (if f = 6 ∧ j = j then _ else if f = 5 ∧ j = j then _ else if f = 3 ∧ j = j then _ else if f = 1 ∧ j = j then _ else aN (sUp j (sBlink a (mR a S)) a) f j) = (if mR a S j = true then _ else _)
              rw [hu, hm]
              rcases hf with rfl | rfl | rfl | rfl | rfl | rfl <;> simp
            · show (if f = 6 ∧ i = j then _ else if f = 5 ∧ i = j then _ else if f = 3 ∧ i = j then _ else if f = 1 ∧ i = j then _ else aN (sUp j (sBlink a (mR a S)) a) f i) = _
              rw [if_neg (by omega), if_neg (by omega), if_neg (by omega), if_neg (by omega)]
            · by_cases e : i = j
              · subst e; rw [hm]; simp
              · rw [lt_s16 e]; simp [e]
  obtain ⟨s, ⟨h1, h2, h3⟩, h4⟩ := key
  exact ⟨s.1, s.2, h4, h1.congr (up_16 rfl rfl rfl rfl), h2.congr (fun i hi => by simp [hi]), h3⟩
