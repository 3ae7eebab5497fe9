-- the same, the model's side
theorem M2_lay {G G' : gG} {i : Nat} {a : AM} {ph rt : Int32} (h : M2 G a) (hi : i < 16) (ho : ∀ x, (x < 8 + 9 * i ∨ 8 + 9 * i + 9 ≤ x) → G' 72 x = G 72 x) (h0 : G' 72 (8 + 9 * i) = 1) (h1 : G' 72 (8 + 9 * i + 1) = ph) (h2 : G' 72 (8 + 9 * i + 2) = rt) (h3 : G' 72 (8 + 9 * i + 3) = 1) (h4 : ∀ f, 4 ≤ f → f ≤ 8 → G' 72 (8 + 9 * i + f) = 0) : M2 G' (sLay a i ph rt) := by
  obtain ⟨g1, g2, g3, g4, g5⟩ := h
  unfold M2 R2
  simp only [Nat.zero_add] at g1 g2 g3 g4 g5 ⊢
  refine ⟨fun r hr => ?_, fun r hr ht => ?_, fun r hr => ?_, fun f r hf hr ht => ?_, fun j hj => ?_⟩
  · show _ = b2i (aT a r || decide (r = i))
    by_cases e : r = i
    · subst e; rw [h0]; simp [b2i]
    · rw [ho _ (by omega), g1 r hr]; simp [e]
  · show _ = b2i (aO a r || decide (r = i))
    by_cases e : r = i
    · subst e; rw [h3]; simp [b2i]
    · have ht2 : (aT a r || decide (r = i)) = true := ht
      rw [ho _ (by omega), g2 r hr (by simpa [e] using ht2)]; simp [e]
  · by_cases e : r = i
    · subst e
      rw [h4 8 (by omega) (by omega)]
      refine isS_0.congr (fun c _ => ?_)
      show _ = (if r = r then false else _); rw [if_pos rfl]
    · rw [ho _ (by omega)]
      refine (g3 r hr).congr (fun c _ => ?_)
      show _ = (if r = i then false else _); rw [if_neg e]
  · show _ = (if r = i then (if f = 1 then ph else if f = 2 then rt else 0) else aN a f r)
    have hm := mf_r hf
    by_cases e : r = i
    · subst e
      rw [if_pos rfl]
      rcases hf with rfl | rfl | rfl | rfl | rfl | rfl
      · exact h1
      · exact h2
      · exact h4 4 (by omega) (by omega)
      · exact h4 5 (by omega) (by omega)
      · exact h4 6 (by omega) (by omega)
      · exact h4 7 (by omega) (by omega)
    · have ht2 : (aT a r || decide (r = i)) = true := ht
      rw [if_neg e, ho _ (by omega), g4 f r hf hr (by simpa [e] using ht2)]
  · rw [ho _ (by omega)]; exact g5 j hj
theorem X4_lay_l {i : Nat} (hi : i < 16) (kt : Int32 → Int32 → Int32 → gG → Option gG) (ph rt : Int32) (G0 : gG) : ∃ G', ((∀ x, (x < 8 + 9 * i ∨ 8 + 9 * i + 9 ≤ x) → G' 72 x = G0 72 x) ∧ (∀ f, f < 9 → G' 72 (8 + 9 * i + f) = 0) ∧ frq G0 G' 72) ∧ sh_X4_lay_3 kt FU (nI i) ph rt 0 G0 = kt (nI i) ph rt G' := by
  obtain ⟨s, ⟨h1, h2, h3⟩, h4⟩ := forl 9 (fun n j s => sh_X4_lay_3 kt n (nI i) ph rt (nI j) s) (fun j s => (∀ x, (x < 8 + 9 * i ∨ 8 + 9 * i + 9 ≤ x) → s 72 x = G0 72 x) ∧ (∀ f, f < j → s 72 (8 + 9 * i + f) = 0) ∧ frq G0 s 72) (fun s => kt (nI i) ph rt s) (by
    intro n s _
    show sh_X4_lay_3 kt (n + 1) (nI i) ph rt (nI 9) s = _
    rw [sh_X4_lay_3.eq_2, if_pos (by decide)]) (by
    intro n j s hj ⟨h1, h2, h3⟩
    show ∃ s', _ ∧ sh_X4_lay_3 kt (n + 1) (nI i) ph rt (nI j) s = _
    rw [sh_X4_lay_3.eq_2, if_neg (by rw [show (9 : Int32) = nI 9 from rfl, nI_leI (by decide) (by omega)]; omega), X4_putG hi hj, obv_s, nI_1 j]
    refine ⟨_, ⟨fun x hx => ?_, fun f hf => ?_, h3.gu⟩, rfl⟩
    · rw [gu_n2 (by omega)]; exact h1 x hx
    · by_cases e : f = j
      · subst e; exact gu_at
      · rw [gu_n2 (by omega)]; exact h2 f (by omega)) 9 0 FU G0 rfl (by decide) ⟨fun _ _ => rfl, fun f hf => by omega, frq.rf⟩
  exact ⟨s, ⟨h1, h2, h3⟩, h4⟩
theorem X4_lay {G : gG} {i : Nat} {a : AM} {ph rt : Int32} (h : M2 G a) (hi : i < 16) : ∃ G', sh_X4_lay (nI i) ph rt G = some G' ∧ M2 G' (sLay a i (if ph < sFull a then ph else sFull a - 1) rt) ∧ frq G G' 72 := by
  unfold sh_X4_lay
  obtain ⟨G1, ⟨a1, a2, a3⟩, a4⟩ := X4_lay_l hi (fun l1 l2 l3 G => (obv (sh_X4_put l1 (0 : Int32) (1 : Int32) G) fun G4 => (obp (sh_X4_round G4) fun r6 => (if r6 ≤ l2 then (obp (sh_X4_round G4) fun r8 => (sh_X4_lay_j52 l1 l3 l1 (1 : Int32) (r8 - (1 : Int32)) G4)) else (sh_X4_lay_j52 l1 l3 l1 (1 : Int32) l2 G4))))) ph rt G
  rw [a4]
  have hr : sh_X4_round (gu G1 72 (8 + 9 * i) 1) = some (sFull a) := by
    unfold sh_X4_round sFull
    rw [tc5, gu_n2 (by omega), a1 5 (by omega), m_g h (by decide), Int32.mul_comm]
  rw [X4_put0 hi, obv_s, hr]
  simp only [obp_s]
  have fin : ∀ y, ∃ G', sh_X4_lay_j52 (nI i) rt (nI i) 1 y (gu G1 72 (8 + 9 * i) 1) = some G' ∧ M2 G' (sLay a i y rt) ∧ frq G G' 72 := by
    intro y
    unfold sh_X4_lay_j52
    rw [X4_put1 hi, obv_s, X4_put2 hi, obv_s, X4_put3 hi, obv_s]
    refine ⟨_, rfl, M2_lay h hi (fun x hx => ?_) ?_ ?_ ?_ ?_ (fun f h1 h2 => ?_), a3.gu.gu.gu.gu⟩
    · rw [gu_n2 (by omega), gu_n2 (by omega), gu_n2 (by omega), gu_n2 (by omega)]; exact a1 x hx
    · rw [gu_n2 (by omega), gu_n2 (by omega), gu_n2 (by omega), gu_at]
    · rw [gu_n2 (by omega), gu_n2 (by omega), gu_at]
    · rw [gu_n2 (by omega), gu_at]
    · rw [gu_at]
    · rw [gu_n2 (by omega), gu_n2 (by omega), gu_n2 (by omega), gu_n2 (by omega)]; exact a2 f (by omega)
  by_cases q : ph < sFull a
  · rw [if_neg (by rw [I_lt] at q; rw [I_le]; omega)]
    obtain ⟨G', e1, e2, e3⟩ := fin ph
    exact ⟨G', e1, by rw [if_pos q]; exact e2, e3⟩
  · rw [if_pos (by rw [I_lt] at q; rw [I_le]; omega)]
    obtain ⟨G', e1, e2, e3⟩ := fin (sFull a - 1)
    exact ⟨G', e1, by rw [if_neg q]; exact e2, e3⟩
theorem X4_goAway_l {i : Nat} {a : AM} (hi : i < 16) (kt : Int32 → Int32 → gG → Option (Int32 × gG)) (z : Int32) {G0 : gG} (h0 : M2 G0 a) : ∃ G', (M2 G' (aT a, aO a, fun r c => aL a r c && !decide (c = i), aN a, aG a) ∧ frq G0 G' 72) ∧ sh_X4_goAway_27 kt FU (nI i) z 0 G0 = kt (nI i) z G' := by
  obtain ⟨s, ⟨h1, h2⟩, h3⟩ := forl 16 (fun n j s => sh_X4_goAway_27 kt n (nI i) z (nI j) s) (fun j s => M2 s (aT a, aO a, fun r c => aL a r c && !(decide (r < j) && decide (c = i)), aN a, aG a) ∧ frq G0 s 72) (fun s => kt (nI i) z s) (by
    intro n s _
    show sh_X4_goAway_27 kt (n + 1) _ _ (nI 16) s = _
    rw [sh_X4_goAway_27.eq_2, if_pos (by decide)]) (by
    intro n j s hj ⟨hR, hF⟩
    show ∃ s', _ ∧ sh_X4_goAway_27 kt (n + 1) _ _ (nI j) s = _
    rw [sh_X4_goAway_27.eq_2, if_neg (nj16 hj), X4_of8 hj, obp_s, X4_put8 hj, obv_s, nI_1 j]
    refine ⟨_, ⟨(hR.l (i := j) ((m_l hR hj).del hi) hj).congr ⟨fun _ _ => rfl, fun _ _ => rfl, fun r c hr hc => ?_, fun _ _ _ _ _ => rfl, fun _ _ => rfl⟩, hF.gu⟩, rfl⟩
    show (if r = j then ((aL a j c && !(decide (j < j) && decide (c = i))) && !decide (c = i)) else (aL a r c && !(decide (r < j) && decide (c = i)))) = (aL a r c && !(decide (r < j + 1) && decide (c = i)))
    by_cases e : r = j
    · subst e
      rw [if_pos rfl]
      simp
    · rw [if_neg e, lt_s16 e]) 16 0 FU G0 rfl (by decide) ⟨h0.congr ⟨fun _ _ => rfl, fun _ _ => rfl, fun r c hr hc => by
        show aL a r c = (aL a r c && !(decide (r < 0) && decide (c = i)))
        simp, fun _ _ _ _ _ => rfl, fun _ _ => rfl⟩, frq.rf⟩
  refine ⟨s, ⟨h1.congr ⟨fun _ _ => rfl, fun _ _ => rfl, fun r c hr hc => ?_, fun _ _ _ _ _ => rfl, fun _ _ => rfl⟩, h2⟩, h3⟩
  show (aL a r c && !(decide (r < 16) && decide (c = i))) = (aL a r c && !decide (c = i))
  simp [hr]
theorem M2.t0 {G : gG} {a : AM} (h : M2 G a) {i : Nat} (hi : i < 16) : M2 (gu G 72 (8 + 9 * i) 0) (mT a (fun r => if r = i then false else aT a r)) := by
  have := R2.th (b := false) h hi (fun q _ => by cases q)
  rwa [Nat.zero_add] at this
theorem X4_goAway_in {i : Nat} {a : AM} (hi : i < 16) (ht : ∀ r, r < 16 → aO a r = true → aT a r = true) {G0 : gG} (h0 : M2 G0 a) : ∃ G', (obp (sh_X4_of (nI i) (8 : Int32) G0) fun r6 => (obp (sh_X4_bits r6) fun r8 => (sh_X4_goAway_27 (fun l1 l2 G => (obv (sh_X4_put l1 (0 : Int32) (0 : Int32) G) fun G14 => (obv (sh_X4_put l1 (8 : Int32) (0 : Int32) G14) fun G16 => some (l2, G16)))) FU (nI i) r8 (0 : Int32) G0))) = some (nI (cnt (aL a i) 16), G') ∧ M2 G' (sDel a i) ∧ frq G0 G' 72 := by
  rw [X4_of8 hi, obp_s, bits_eq (m_l h0 hi), obp_s]
  obtain ⟨G1, ⟨h1, h2⟩, h3⟩ := X4_goAway_l hi (fun l1 l2 G => (obv (sh_X4_put l1 (0 : Int32) (0 : Int32) G) fun G14 => (obv (sh_X4_put l1 (8 : Int32) (0 : Int32) G14) fun G16 => some (l2, G16)))) (nI (cnt (aL a i) 16)) h0
  rw [h3, X4_put0 hi, obv_s, X4_put8 hi, obv_s]
  have hM := (h1.t0 hi).l (i := i) isS_0 hi
  refine ⟨_, rfl, ?_, h2.gu.gu⟩
  -- the lamp is no more, so what it was is asked by nobody
  have hM2 : M2 (gu (gu G1 72 (8 + 9 * i) 0) 72 (8 + 9 * i + 8) 0) (sDel a i) := by
    obtain ⟨g1, g2, g3, g4, g5⟩ := hM
    refine ⟨fun r hr => ?_, fun r hr hq => ?_, fun r hr => ?_, fun f r hf hr hq => ?_, g5⟩
    · rw [g1 r hr]
      show b2i (if r = i then false else aT a r) = b2i (aT a r && !decide (r = i))
      by_cases e : r = i <;> simp [e]
    · have hq2 : (aT a r && !decide (r = i)) = true := hq
      have e : r ≠ i := by intro e; rw [e] at hq2; simp at hq2
      have hq3 : aT a r = true := by simp at hq2; exact hq2.1
      rw [g2 r hr (by show (if r = i then false else aT a r) = true; rw [if_neg e]; exact hq3)]
      show b2i (aO a r) = b2i (aO a r && !decide (r = i))
      simp [e]
    · refine (g3 r hr).congr (fun c hc => ?_)
      show (if r = i then false else (aL a r c && !decide (c = i))) = (if r = i then false else aL a r c && !decide (c = i))
      rfl
    · have hq2 : (aT a r && !decide (r = i)) = true := hq
      have e : r ≠ i := by intro e; rw [e] at hq2; simp at hq2
      have hq3 : aT a r = true := by simp at hq2; exact hq2.1
      exact g4 f r hf hr (by show (if r = i then false else aT a r) = true; rw [if_neg e]; exact hq3)
  exact hM2
theorem X4_connect {G : gG} {i j : Nat} {a : AM} {b : Bool} (h : M2 G a) (hi : i < 16) (hj : j < 16) (hij : i ≠ j) : ∃ G', sh_X4_connect (nI i) (nI j) (b2i b) G = some G' ∧ M2 G' (sLink a i j b) ∧ frq G G' 72 := by
  unfold sh_X4_connect sh_X4_connect_j35 sh_X4_connect_j73
  have fin : ∀ {x y : Int32} {S T : Nat → Bool}, isS x S → isS y T → (∀ c, c < 16 → S c = (if c = j then b else aL a i c)) → (∀ c, c < 16 → T c = (if c = i then b else aL a j c)) → M2 (gu (gu G 72 (8 + 9 * i + 8) x) 72 (8 + 9 * j + 8) y) (sLink a i j b) := by
    intro x y S T hx hy h1 h2
    refine ((h.l hx hi).l hy hj).congr ⟨fun _ _ => rfl, fun _ _ => rfl, fun r c _ hc => ?_, fun _ _ _ _ _ => rfl, fun _ _ => rfl⟩
    show (if r = j then T c else if r = i then S c else aL a r c) = (if (r = i ∧ c = j) ∨ (r = j ∧ c = i) then b else aL a r c)
    by_cases e1 : r = j
    · subst e1
      rw [if_pos rfl, h2 c hc]
      by_cases e2 : c = i <;> simp [e2, Ne.symm hij]
    · rw [if_neg e1]
      by_cases e3 : r = i
      · subst e3
        rw [if_pos rfl, h1 c hc]
        by_cases e2 : c = j <;> simp [e2, e1]
      · simp [e1, e3]
  have hl := m_l h hi
  have hl2 := m_l h hj
  cases b
  · rw [if_pos (b_f rfl), X4_of8 hi, obp_s, X4_put8 hi, obv_s, if_pos (b_f rfl), X4_of8 hj, obp_s, X4_put8 hj, obv_s, gu_n2 (show 8 + 9 * j + 8 ≠ 8 + 9 * i + 8 by omega)]
    refine ⟨_, rfl, fin (hl.del hj) (hl2.del hi) (fun c _ => ?_) (fun c _ => ?_), frq.rf.gu.gu⟩
    · by_cases e : c = j <;> simp [e]
    · by_cases e : c = i <;> simp [e]
  · rw [if_neg (b_t rfl), X4_of8 hi, obp_s, X4_put8 hi, obv_s, if_neg (b_t rfl), X4_of8 hj, obp_s, X4_put8 hj, obv_s, gu_n2 (show 8 + 9 * j + 8 ≠ 8 + 9 * i + 8 by omega)]
    refine ⟨_, rfl, fin (hl.add hj) (hl2.add hi) (fun c _ => ?_) (fun c _ => ?_), frq.rf.gu.gu⟩
    · by_cases e : c = j <;> simp [e]
    · by_cases e : c = i <;> simp [e]
theorem X4_set_l {G0 : gG} {a : AM} (hf : 0 < (sFull a).toInt) (z : Int32) (h0 : M2 G0 a) : ∃ G', sh_X4_set_87 (fun l4 G => some (l4, G)) FU z 0 G0 = some (z, G') ∧ M2 G' (sFit a) ∧ frq G0 G' 72 := by
  obtain ⟨s, ⟨h1, h2⟩, h3⟩ := forl 16 (fun n j s => sh_X4_set_87 (fun l4 G => some (l4, G)) n z (nI j) s) (fun j s => M2 s (sUp j (sFit a) a) ∧ frq G0 s 72) (fun s => some (z, s)) (by
    intro n s _
    show sh_X4_set_87 _ (n + 1) z (nI 16) s = _
    rw [sh_X4_set_87.eq_2, if_pos (by decide)]) (by
    intro n j G hj ⟨hR, hF⟩
    have hu : ∀ f, aN (sUp j (sFit a) a) f j = aN a f j := fun f => by show (if j < j then _ else _) = _; rw [if_neg (by omega)]
    have hfull : sh_X4_round G = some (sFull a) := X4_round (a := sUp j (sFit a) a) hR
    show ∃ s', _ ∧ sh_X4_set_87 _ (n + 1) z (nI j) G = _
    rw [sh_X4_set_87.eq_2, if_neg (nj16 hj), X4_of1 hj, hfull]
    simp only [obp_s]
    have fin : ∀ y, (aT a j = true → y = (if aN a 1 j < sFull a then aN a 1 j else sFull a - 1)) → ∃ s', (M2 s' (sUp (j + 1) (sFit a) a) ∧ frq G0 s' 72) ∧ sh_X4_set_j128 (fun l4 G => some (l4, G)) (sh_X4_set_87 (fun l4 G => some (l4, G)) n) z (nI j) (nI j) 1 y G = sh_X4_set_87 (fun l4 G => some (l4, G)) n z (nI (j + 1)) s' := by
      intro y hy
      unfold sh_X4_set_j128
      rw [X4_put1 hj, obv_s, nI_1 j]
      refine ⟨_, ⟨?_, hF.gu⟩, rfl⟩
      refine (hR.n (f := 1) (x := y) fld1 hj).congr ⟨fun _ _ => rfl, fun _ _ => rfl, fun _ _ _ _ => rfl, fun f i hf1 hi ht => ?_, fun _ _ => rfl⟩
      show (if f = 1 ∧ i = j then _ else aN (sUp j (sFit a) a) f i) = (if i < j + 1 then (if f = 1 then (if aN a 1 i < sFull a then aN a 1 i else sFull a - 1) else aN a f i) else aN a f i)
      by_cases e : i = j
      · subst e
        rw [if_pos (show i < i + 1 by omega)]
        by_cases e1 : f = 1
        · subst e1
          rw [if_pos ⟨rfl, rfl⟩, if_pos rfl, hy ht]
        · rw [if_neg (by omega), if_neg e1, hu]
      · rw [if_neg (by omega)]
        show (if i < j then _ else _) = _
        by_cases q : i < j
        · rw [if_pos q, if_pos (show i < j + 1 by omega)]; rfl
        · rw [if_neg q, if_neg (show ¬ i < j + 1 by omega)]
    by_cases q : sFull a ≤ G 72 (8 + 9 * j + 1)
    · rw [if_pos q]
      refine fin _ (fun ht => ?_)
      have n1 : G 72 (8 + 9 * j + 1) = aN a 1 j := by have := m_n hR (f := 1) fld1 hj ht; rw [hu] at this; exact this
      rw [n1] at q
      rw [if_neg (by rw [I_le] at q; rw [I_lt]; omega)]
    · rw [if_neg q]
      refine fin _ (fun ht => ?_)
      have n1 : G 72 (8 + 9 * j + 1) = aN a 1 j := by have := m_n hR (f := 1) fld1 hj ht; rw [hu] at this; exact this
      rw [n1] at q ⊢
      rw [if_pos (by rw [I_le] at q; rw [I_lt]; omega)]) 16 0 FU G0 rfl (by decide) ⟨h0, frq.rf⟩
  exact ⟨s, h3, h1.congr (up_16 rfl rfl rfl rfl), h2⟩
theorem X4_ticksN : ∀ (d j m n : Nat) (G : gG) (a : AM), j + d = m → m < 100000 → d < n → wf a → M2 G a → ∃ G', sh_X4_goOn_2 (fun G => some G) n (nI m) (nI j) G = some G' ∧ M2 G' (sTickN d a) ∧ frq G G' 72 := by
  intro d
  induction d with
  | zero =>
    intro j m n G a hj hm hn hw hR
    obtain ⟨n, rfl⟩ : ∃ k, n = k + 1 := ⟨n - 1, by omega⟩
    rw [sh_X4_goOn_2.eq_2, if_pos (nI_le (by omega) (by omega))]
    exact ⟨G, rfl, hR, frq.rf⟩
  | succ d ih =>
    intro j m n G a hj hm hn hw hR
    obtain ⟨n, rfl⟩ : ∃ k, n = k + 1 := ⟨n - 1, by omega⟩
    obtain ⟨r, G1, e1, e2, e3, e4⟩ := X4_tick hw hR
    obtain ⟨G2, f1, f2, f3⟩ := ih (j + 1) m n G1 _ (by omega) hm (by omega) (tick_wf hw) e2
    rw [sh_X4_goOn_2.eq_2, if_neg (nI_ge (by omega) (by omega)), e1, obi_s, nI_1 j]
    exact ⟨G2, f1, f2, e4.trans f3⟩
theorem X4_goOn {G : gG} {m : Nat} {a : AM} (hm : m < 1000) (hw : wf a) (hR : M2 G a) : ∃ G', sh_X4_goOn (nI m) G = some G' ∧ M2 G' (sTickN m a) ∧ frq G G' 72 :=
  X4_ticksN m 0 m FU G a (by omega) (by omega) (by unfold FU; omega) hw hR
theorem X4_copy {q0 q2 o1 o2 : Nat} (hne : q0 ≠ q2) (h1 : o1 + 152 ≤ alen q0) (h2 : o2 + 152 ≤ alen q2) (hl : alen q0 ≤ 608 ∧ alen q2 ≤ 608) (G0 : gG) : ∃ G', sh_X4_copy q0 q2 (nI o1) (nI o2) G0 = some G' ∧ (∀ j, j < 152 → G' q2 (o2 + j) = G0 q0 (o1 + j)) ∧ (∀ x, (x < o2 ∨ o2 + 152 ≤ x) → G' q2 x = G0 q2 x) ∧ frq G0 G' q2 := by
  unfold sh_X4_copy
  obtain ⟨s, ⟨a1, a2, a3⟩, a4⟩ := forl 152 (fun n j s => sh_X4_copy_3 q0 q2 (fun G => some G) n (nI o1) (nI o2) (nI j) s) (fun j s => (∀ i, i < j → s q2 (o2 + i) = G0 q0 (o1 + i)) ∧ (∀ x, (x < o2 ∨ o2 + 152 ≤ x) → s q2 x = G0 q2 x) ∧ frq G0 s q2) (fun s => some s) (by
    intro n s _
    show sh_X4_copy_3 q0 q2 _ (n + 1) _ _ (nI 152) s = _
    rw [sh_X4_copy_3.eq_2, if_pos (by decide)]) (by
    intro n j s hj ⟨b1, b2, b3⟩
    show ∃ s', _ ∧ sh_X4_copy_3 q0 q2 _ (n + 1) _ _ (nI j) s = _
    rw [sh_X4_copy_3.eq_2, if_neg (by rw [show (152 : Int32) = nI 152 from rfl, nI_leI (by decide) (by omega)]; omega), nI_add, nI_add, if_pos (gin_n (by omega) (by omega)), if_pos (gin_n (by omega) (by omega)), bng_s, nI_clamp (by omega), nI_clamp (by omega), nI_1 j]
    refine ⟨_, ⟨fun i hi => ?_, fun x hx => ?_, b3.gu⟩, rfl⟩
    · by_cases e : i = j
      · subst e; rw [gu_at, b3 q0 hne]
      · rw [gu_n2 (by omega)]; exact b1 i (by omega)
    · rw [gu_n2 (by omega)]; exact b2 x hx) 152 0 FU G0 rfl (by decide) ⟨fun i hi => by omega, fun _ _ => rfl, frq.rf⟩
  exact ⟨s, a4, a1, a2, a3⟩
theorem R2_copy {G G' : gG} {q0 q2 o1 o2 : Nat} {a : AM} (h : R2 G q0 o1 a) (e : ∀ j, j < 152 → G' q2 (o2 + j) = G q0 (o1 + j)) : R2 G' q2 o2 a := by
  obtain ⟨h1, h2, h3, h4, h5⟩ := h
  refine ⟨fun i hi => by rw [e _ (by omega)]; exact h1 i hi, fun i hi ht => by rw [e _ (by omega)]; exact h2 i hi ht, fun i hi => by rw [e _ (by omega)]; exact h3 i hi, fun f i hf hi ht => ?_, fun j hj => by rw [e _ (by omega)]; exact h5 j hj⟩
  have := mf_r hf
  rw [e _ (by omega)]; exact h4 f i hf hi ht
